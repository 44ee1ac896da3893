set_option maxHeartbeats 4000000 in
set_option maxRecDepth 100000 in
/-- WeekBankModel.see:  -/
theorem k_X9_see (l : Launch) (dC : Nat → ClassId) (dI : Nat → Nat → Nat) (dA : Nat → ClassId) (sz : Nat) (X : va_W) (Γ : ty_G) (hU : Un Γ) (g : gh) (h0 : Nat) (t_h0 : ty Γ h0 30) (p1 : Int32) (hp : 0 ≤ p1.toInt ∧ g 114 0 ≤ 300) : Met l yX9_see (.code yX9_see cX9_see 2 (Option.some Jvm.ClassFile.FieldType.int) :: AL) ({ frames := 0, cells := 0, slots := 0, locals := 0 }) (PCx dC dI dA sz X Γ g [.ref h0, .int p1]) (va_Qi (fun (r : Int32) (u : gh) => u = g ∧ ((g 114 0 ≤ p1.toInt → r.toInt = 0))) (okb dC dI dA sz X Γ) (ty_A sz)) 0 0 (ty_A sz) := by
  refine Met.ofW (cc := cX9_see) (maxL := 2) (ret := (Option.some Jvm.ClassFile.FieldType.int)) (by decide) rfl ?_
  intro p e s m args below meth c s₁ B hml hv
  obtain ⟨rfl, hG, hE⟩ := hv
  have hx := B.exec
  have hb := B.bytes
  have hr := B.returns
  have hts := atoms_spec B.pre
  have hA : ∀ w ∈ AL, w.before _ s = true := fun w h => hts w (List.mem_cons_of_mem _ h)
  have hown : s.vm.findClass RX9 = some m.cls := findClass_of_methodNamed B.named
  have hlocks := B.notSynchronized
  have hS : va_S (ty_A sz) s.heap s.heap [] := va_S.rf
  have hl := lv_entry ([.ref h0, .int p1]) (n := 2) (Nat.le_of_ble_eq_true rfl)
  rw [lg_entry_eq]
  generalize (lg_sl ([.ref h0, .int p1]) ++ List.replicate (2 - (lg_sl ([.ref h0, .int p1])).length) Slot.unset).toArray = ls at hl ⊢
  have hl : lv_has ls 2 [(0, .ref h0), (1, .int p1)] := hl
  refine lv_iload_n hx hb dX9_see_0 rfl (lv_at hl 1 rfl) ?_
  refine lv_aload_n hx hb dX9_see_1 rfl (lv_at hl 0 rfl) ?_
  refine get_X9_14 hx hb hA hown hE hG t_h0 wd_4_144 dX9_see_2 (fun x1 h2 => ?_)
  refine ty_icmp_ge (tgt := 17) hx hb dX9_see_5 (by decide) (fun c4 => ?_) (fun c4 => ?_)
  · skip
    refine ty_iconst hx hb (0) dX9_see_17 (by decide) (fun x5 h6 => ?_)
    exact W.iret (v := x5) hx hb hr (fun t ht hW => ⟨⟨x5, g, rfl, ⟨rfl, (by omega)⟩, ok1 ht hG⟩, hS.F ht⟩) hS.2.2 dX9_see_18
  · skip
    refine lv_aload_n hx hb dX9_see_8 rfl (lv_at hl 0 rfl) ?_
    refine get_X9_13 hx hb hA hown hE hG t_h0 wd_4_143 dX9_see_9 (fun b7 (t_b7 : ty Γ b7 113) => ?_)
    refine lv_iload_n hx hb dX9_see_12 rfl (lv_at hl 1 rfl) ?_
    refine ald_mB hx hb hE hG 13 rfl (n := 300) rfl (lo := -2147483648) (hi := 2147483647) rfl rfl t_b7 (by omega) dX9_see_13 (fun j9 x8 h10 h11 h12 => ?_)
    clear h12
    refine lv_goto (tgt := 18) hx hb dX9_see_14 (by decide) ?_
    exact W.iret (v := x8) hx hb hr (fun t ht hW => ⟨⟨x8, g, rfl, ⟨rfl, (by omega)⟩, ok1 ht hG⟩, hS.F ht⟩) hS.2.2 dX9_see_18

set_option maxHeartbeats 4000000 in
set_option maxRecDepth 100000 in
/-- WeekBankModel.isSmall:  -/
theorem k_X9_isSmall (l : Launch) (dC : Nat → ClassId) (dI : Nat → Nat → Nat) (dA : Nat → ClassId) (sz : Nat) (X : va_W) (Γ : ty_G) (hU : Un Γ) (g : gh) (p0 : Int32) : Met l yX9_isSmall (.code yX9_isSmall cX9_isSmall 1 (Option.some Jvm.ClassFile.FieldType.boolean) :: AL) ({ frames := 0, cells := 0, slots := 0, locals := 0 }) (PCx dC dI dA sz X Γ g [.int p0]) (va_Qi (fun (r : Int32) (u : gh) => u = g ∧ (((97 ≤ p0.toInt ∧ p0.toInt ≤ 122 → r.toInt = 1) ∧ (¬ (97 ≤ p0.toInt ∧ p0.toInt ≤ 122) → r.toInt = 0)))) (okb dC dI dA sz X Γ) (ty_A sz)) 0 0 (ty_A sz) := by
  refine Met.ofW (cc := cX9_isSmall) (maxL := 1) (ret := (Option.some Jvm.ClassFile.FieldType.boolean)) (by decide) rfl ?_
  intro p e s m args below meth c s₁ B hml hv
  obtain ⟨rfl, hG, hE⟩ := hv
  have hx := B.exec
  have hb := B.bytes
  have hr := B.returns
  have hts := atoms_spec B.pre
  have hA : ∀ w ∈ AL, w.before _ s = true := fun w h => hts w (List.mem_cons_of_mem _ h)
  have hown : s.vm.findClass RX9 = some m.cls := findClass_of_methodNamed B.named
  have hlocks := B.notSynchronized
  have hS : va_S (ty_A sz) s.heap s.heap [] := va_S.rf
  have hl := lv_entry ([.int p0]) (n := 1) (Nat.le_of_ble_eq_true rfl)
  rw [lg_entry_eq]
  generalize (lg_sl ([.int p0]) ++ List.replicate (1 - (lg_sl ([.int p0])).length) Slot.unset).toArray = ls at hl ⊢
  have hl : lv_has ls 1 [(0, .int p0)] := hl
  refine lv_iload_n hx hb dX9_isSmall_0 rfl (lv_at hl 0 rfl) ?_
  refine ty_bipush hx hb (97) dX9_isSmall_1 (by decide) (fun x1 h2 => ?_)
  refine ty_icmp_lt (tgt := 16) hx hb dX9_isSmall_3 (by decide) (fun c3 => ?_) (fun c3 => ?_)
  · skip
    refine ty_iconst hx hb (0) dX9_isSmall_16 (by decide) (fun x4 h5 => ?_)
    exact W.zret (v := x4) hx hb hr (ty_nb (by omega)).1 (fun t ht hW => ⟨⟨x4, g, rfl, ⟨rfl, (by omega)⟩, ok1 ht hG⟩, hS.F ht⟩) hS.2.2 dX9_isSmall_17
  · skip
    refine lv_iload_n hx hb dX9_isSmall_6 rfl (lv_at hl 0 rfl) ?_
    refine ty_bipush hx hb (122) dX9_isSmall_7 (by decide) (fun x6 h7 => ?_)
    refine ty_icmp_gt (tgt := 16) hx hb dX9_isSmall_9 (by decide) (fun c8 => ?_) (fun c8 => ?_)
    · skip
      refine ty_iconst hx hb (0) dX9_isSmall_16 (by decide) (fun x9 h10 => ?_)
      exact W.zret (v := x9) hx hb hr (ty_nb (by omega)).1 (fun t ht hW => ⟨⟨x9, g, rfl, ⟨rfl, (by omega)⟩, ok1 ht hG⟩, hS.F ht⟩) hS.2.2 dX9_isSmall_17
    · skip
      refine ty_iconst hx hb (1) dX9_isSmall_12 (by decide) (fun x11 h12 => ?_)
      refine lv_goto (tgt := 17) hx hb dX9_isSmall_13 (by decide) ?_
      exact W.zret (v := x11) hx hb hr (ty_nb (by omega)).1 (fun t ht hW => ⟨⟨x11, g, rfl, ⟨rfl, (by omega)⟩, ok1 ht hG⟩, hS.F ht⟩) hS.2.2 dX9_isSmall_17

set_option maxHeartbeats 4000000 in
set_option maxRecDepth 100000 in
/-- WeekBankModel.isDigit:  -/
theorem k_X9_isDigit (l : Launch) (dC : Nat → ClassId) (dI : Nat → Nat → Nat) (dA : Nat → ClassId) (sz : Nat) (X : va_W) (Γ : ty_G) (hU : Un Γ) (g : gh) (p0 : Int32) : Met l yX9_isDigit (.code yX9_isDigit cX9_isDigit 1 (Option.some Jvm.ClassFile.FieldType.boolean) :: AL) ({ frames := 0, cells := 0, slots := 0, locals := 0 }) (PCx dC dI dA sz X Γ g [.int p0]) (va_Qi (fun (r : Int32) (u : gh) => u = g ∧ (((48 ≤ p0.toInt ∧ p0.toInt ≤ 57 → r.toInt = 1) ∧ (¬ (48 ≤ p0.toInt ∧ p0.toInt ≤ 57) → r.toInt = 0)))) (okb dC dI dA sz X Γ) (ty_A sz)) 0 0 (ty_A sz) := by
  refine Met.ofW (cc := cX9_isDigit) (maxL := 1) (ret := (Option.some Jvm.ClassFile.FieldType.boolean)) (by decide) rfl ?_
  intro p e s m args below meth c s₁ B hml hv
  obtain ⟨rfl, hG, hE⟩ := hv
  have hx := B.exec
  have hb := B.bytes
  have hr := B.returns
  have hts := atoms_spec B.pre
  have hA : ∀ w ∈ AL, w.before _ s = true := fun w h => hts w (List.mem_cons_of_mem _ h)
  have hown : s.vm.findClass RX9 = some m.cls := findClass_of_methodNamed B.named
  have hlocks := B.notSynchronized
  have hS : va_S (ty_A sz) s.heap s.heap [] := va_S.rf
  have hl := lv_entry ([.int p0]) (n := 1) (Nat.le_of_ble_eq_true rfl)
  rw [lg_entry_eq]
  generalize (lg_sl ([.int p0]) ++ List.replicate (1 - (lg_sl ([.int p0])).length) Slot.unset).toArray = ls at hl ⊢
  have hl : lv_has ls 1 [(0, .int p0)] := hl
  refine lv_iload_n hx hb dX9_isDigit_0 rfl (lv_at hl 0 rfl) ?_
  refine ty_bipush hx hb (48) dX9_isDigit_1 (by decide) (fun x1 h2 => ?_)
  refine ty_icmp_lt (tgt := 16) hx hb dX9_isDigit_3 (by decide) (fun c3 => ?_) (fun c3 => ?_)
  · skip
    refine ty_iconst hx hb (0) dX9_isDigit_16 (by decide) (fun x4 h5 => ?_)
    exact W.zret (v := x4) hx hb hr (ty_nb (by omega)).1 (fun t ht hW => ⟨⟨x4, g, rfl, ⟨rfl, (by omega)⟩, ok1 ht hG⟩, hS.F ht⟩) hS.2.2 dX9_isDigit_17
  · skip
    refine lv_iload_n hx hb dX9_isDigit_6 rfl (lv_at hl 0 rfl) ?_
    refine ty_bipush hx hb (57) dX9_isDigit_7 (by decide) (fun x6 h7 => ?_)
    refine ty_icmp_gt (tgt := 16) hx hb dX9_isDigit_9 (by decide) (fun c8 => ?_) (fun c8 => ?_)
    · skip
      refine ty_iconst hx hb (0) dX9_isDigit_16 (by decide) (fun x9 h10 => ?_)
      exact W.zret (v := x9) hx hb hr (ty_nb (by omega)).1 (fun t ht hW => ⟨⟨x9, g, rfl, ⟨rfl, (by omega)⟩, ok1 ht hG⟩, hS.F ht⟩) hS.2.2 dX9_isDigit_17
    · skip
      refine ty_iconst hx hb (1) dX9_isDigit_12 (by decide) (fun x11 h12 => ?_)
      refine lv_goto (tgt := 17) hx hb dX9_isDigit_13 (by decide) ?_
      exact W.zret (v := x11) hx hb hr (ty_nb (by omega)).1 (fun t ht hW => ⟨⟨x11, g, rfl, ⟨rfl, (by omega)⟩, ok1 ht hG⟩, hS.F ht⟩) hS.2.2 dX9_isDigit_17

set_option maxHeartbeats 4000000 in
set_option maxRecDepth 100000 in
/-- WeekBankModel.next:  -/
theorem k_X9_next (l : Launch) (dC : Nat → ClassId) (dI : Nat → Nat → Nat) (dA : Nat → ClassId) (sz : Nat) (X : va_W) (Γ : ty_G) (hU : Un Γ) (g : gh) (h0 : Nat) (t_h0 : ty Γ h0 30) (hp : 0 ≤ g 115 0 ∧ g 115 0 ≤ g 114 0 ∧ g 114 0 ≤ 300) : Met l yX9_next (.code yX9_next cX9_next 2 (Option.none : Option Jvm.ClassFile.FieldType) :: AL) ({ frames := 1, cells := 0, slots := 0, locals := 21 }) (PCx dC dI dA sz X Γ g [.ref h0]) (va_Qv (fun (u : gh) => (∀ c j : Nat, c ≠ 115 → c ≠ 116 → c ≠ 117 → c ≠ 118 → u c j = g c j) ∧ ((0 ≤ u 116 0 ∧ u 116 0 ≤ u 115 0 ∧ u 115 0 ≤ g 114 0))) (okb dC dI dA sz X Γ) (ty_A sz)) 0 0 (ty_A sz) := by
  refine Met.ofW (cc := cX9_next) (maxL := 2) (ret := (Option.none : Option Jvm.ClassFile.FieldType)) (by decide) rfl ?_
  intro p e s m args below meth c s₁ B hml hv
  obtain ⟨rfl, hG, hE⟩ := hv
  have hx := B.exec
  have hb := B.bytes
  have hr := B.returns
  have hts := atoms_spec B.pre
  have hA : ∀ w ∈ AL, w.before _ s = true := fun w h => hts w (List.mem_cons_of_mem _ h)
  have hown : s.vm.findClass RX9 = some m.cls := findClass_of_methodNamed B.named
  have hlocks := B.notSynchronized
  have hS : va_S (ty_A sz) s.heap s.heap [] := va_S.rf
  have hl := lv_entry ([.ref h0]) (n := 2) (Nat.le_of_ble_eq_true rfl)
  rw [lg_entry_eq]
  generalize (lg_sl ([.ref h0]) ++ List.replicate (2 - (lg_sl ([.ref h0])).length) Slot.unset).toArray = ls at hl ⊢
  have hl : lv_has ls 2 [(0, .ref h0)] := hl
  have L_0 : ∀ (n : Nat)  (g1 : gh) (H : Heap) (locs : List Loc) (ls : Array Slot), (g1 114 0 - g1 115 0 : Int) < n → g 115 0 ≤ g1 115 0 ∧ g1 115 0 ≤ g1 114 0 → (∀ c j : Nat, c ≠ 115 → g1 c j = g c j) → ty_ok (dC, dI) vwCl Γ (TP dA Γ g1) sz X H → va_S (ty_A sz) s.heap H locs → lv_has ls 2 [(0, .ref h0)] → W p l e (headSpec (.code yX9_next cX9_next 2 (Option.none : Option Jvm.ClassFile.FieldType) :: AL) ({ frames := 1, cells := 0, slots := 0, locals := 21 })).room s m ([.ref h0] : List Value).toArray below meth c H locs 0 0 (MQ below (va_Qv (fun (u : gh) => (∀ c j : Nat, c ≠ 115 → c ≠ 116 → c ≠ 117 → c ≠ 118 → u c j = g c j) ∧ ((0 ≤ u 116 0 ∧ u 116 0 ≤ u 115 0 ∧ u 115 0 ≤ g 114 0))) (okb dC dI dA sz X Γ) (ty_A sz)) ([.ref h0] : List Value).toArray s 0 0 (ty_A sz)) (F0 m 0 ls []) := by
    intro n
    induction n with
    | zero => intro g1 H locs ls hm hi0 hf2 hG hS hl; exfalso; omega
    | succ n ih_0 =>
      intro g1 H locs ls hm hi0 hf2 hG hS hl
      have hk3 : g1 114 0 = g 114 0 := hf2 114 0 (by decide)
      refine lv_aload_n hx hb dX9_next_0 rfl (lv_at hl 0 rfl) ?_
      refine get_X9_15 hx hb hA hown hE hG t_h0 wd_4_145 dX9_next_1 (fun x4 h5 => ?_)
      refine lv_aload_n hx hb dX9_next_4 rfl (lv_at hl 0 rfl) ?_
      refine get_X9_14 hx hb hA hown hE hG t_h0 wd_4_144 dX9_next_5 (fun x7 h8 => ?_)
      refine ty_icmp_ge (tgt := 52) hx hb dX9_next_8 (by decide) (fun c10 => ?_) (fun c10 => ?_)
      · skip
        refine lv_aload_n hx hb dX9_next_52 rfl (lv_at hl 0 rfl) ?_
        refine lv_aload_n hx hb dX9_next_53 rfl (lv_at hl 0 rfl) ?_
        refine get_X9_15 hx hb hA hown hE hG t_h0 wd_4_145 dX9_next_54 (fun x11 h12 => ?_)
        refine put_X9_16 hx hb hA hown hE hG hS hU t_h0 wd_4_146 dX9_next_57 (fun H locs hG hS => ?_)
        refine lv_aload_n hx hb dX9_next_60 rfl (lv_at hl 0 rfl) ?_
        refine get_X9_15 hx hb hA hown hE hG t_h0 wd_4_145 dX9_next_61 (fun x14 h15 => ?_)
        replace h15 : x14.toInt = g1 115 0 := by rw [h15]; simp [gs]
        refine lv_aload_n hx hb dX9_next_64 rfl (lv_at hl 0 rfl) ?_
        refine get_X9_14 hx hb hA hown hE hG t_h0 wd_4_144 dX9_next_65 (fun x17 h18 => ?_)
        replace h18 : x17.toInt = g1 114 0 := by rw [h18]; simp [gs]
        refine ty_icmp_lt (tgt := 77) hx hb dX9_next_68 (by decide) (fun c20 => ?_) (fun c20 => ?_)
        · skip
          refine lv_aload_n hx hb dX9_next_77 rfl (lv_at hl 0 rfl) ?_
          refine get_X9_13 hx hb hA hown hE hG t_h0 wd_4_143 dX9_next_78 (fun b21 (t_b21 : ty Γ b21 113) => ?_)
          refine lv_aload_n hx hb dX9_next_81 rfl (lv_at hl 0 rfl) ?_
          refine get_X9_15 hx hb hA hown hE hG t_h0 wd_4_145 dX9_next_82 (fun x22 h23 => ?_)
          replace h23 : x22.toInt = g1 115 0 := by rw [h23]; simp [gs]
          refine ald_mB hx hb hE hG 13 rfl (n := 300) rfl (lo := -2147483648) (hi := 2147483647) rfl rfl t_b21 (by omega) dX9_next_85 (fun j26 x25 h27 h28 h29 => ?_)
          clear h29
          refine lv_istore_n (lv' := [(1, .int x25), (0, .ref h0)]) hx hb dX9_next_86 rfl hl (by decide) rfl (fun ls hl => ?_)
          refine lv_aload_n hx hb dX9_next_87 rfl (lv_at hl 1 rfl) ?_
          refine lv_dup hx hb dX9_next_88 rfl ?_
          refine get_X9_15 hx hb hA hown hE hG t_h0 wd_4_145 dX9_next_89 (fun x30 h31 => ?_)
          replace h31 : x30.toInt = g1 115 0 := by rw [h31]; simp [gs]
          refine ty_iconst hx hb (1) dX9_next_92 (by decide) (fun x33 h34 => ?_)
          refine ty_iadd hx hb dX9_next_93 (fun x35 h36 => ?_)
          try have h37 : x35.toInt = x30.toInt + x33.toInt := ty_add h36 (by omega) (by omega)
          refine put_X9_15 hx hb hA hown hE hG hS hU t_h0 wd_4_145 dX9_next_94 (fun H locs hG hS => ?_)
          refine lv_iload_n hx hb dX9_next_97 rfl (lv_at hl 0 rfl) ?_
          refine cI (va_runS (As := [.int x25]) (rest := []) ⟨hx, hb, hml, hown, hA⟩ (k_X9_isSmall l dC dI dA sz X Γ hU (gs (gs g1 116 0 x11.toInt) 115 0 x35.toInt) x25   ) ⟨callB_of 1 hA (al_A wd_5_77) rfl rfl rfl (hA _ wd_1_7) (hA _ wd_5_75) (by decide +kernel) ⟨Nat.le_of_ble_eq_true rfl, Nat.le_of_ble_eq_true rfl⟩, hA _ wd_5_76⟩ ⟨bl, fun U hU9 hW9 => ⟨rfl, by rw [hU9]; exact hG, hE.go hS hU9 hW9⟩⟩ rfl rfl hl.1 rfl (lv_room (Nat.le_of_ble_eq_true rfl)) dX9_next_98 ⟨Nat.zero_le _, Nat.zero_le _⟩) hS (fun x40 u38 H locs w39 hG hS => ?_)
          obtain ⟨eu41, w39⟩ := w39
          rw [eu41] at hG
          refine ty_if_eq (tgt := 139) hx hb dX9_next_101 (by decide) (fun c42 => ?_) (fun c42 => ?_)
          · skip
            refine lv_iload_n hx hb dX9_next_139 rfl (lv_at hl 0 rfl) ?_
            refine cI (va_runS (As := [.int x25]) (rest := []) ⟨hx, hb, hml, hown, hA⟩ (k_X9_isDigit l dC dI dA sz X Γ hU (gs (gs g1 116 0 x11.toInt) 115 0 x35.toInt) x25   ) ⟨callB_of 1 hA (al_A wd_5_84) rfl rfl rfl (hA _ wd_1_7) (hA _ wd_5_82) (by decide +kernel) ⟨Nat.le_of_ble_eq_true rfl, Nat.le_of_ble_eq_true rfl⟩, hA _ wd_5_83⟩ ⟨bl, fun U hU9 hW9 => ⟨rfl, by rw [hU9]; exact hG, hE.go hS hU9 hW9⟩⟩ rfl rfl hl.1 rfl (lv_room (Nat.le_of_ble_eq_true rfl)) dX9_next_140 ⟨Nat.zero_le _, Nat.zero_le _⟩) hS (fun x45 u43 H locs w44 hG hS => ?_)
            obtain ⟨eu46, w44⟩ := w44
            rw [eu46] at hG
            refine ty_if_eq (tgt := 242) hx hb dX9_next_143 (by decide) (fun c47 => ?_) (fun c47 => ?_)
            · skip
              refine lv_aload_n hx hb dX9_next_242 rfl (lv_at hl 1 rfl) ?_
              refine lv_iload_n hx hb dX9_next_243 rfl (lv_at hl 0 rfl) ?_
              refine ty_bipush hx hb (59) dX9_next_244 (by decide) (fun x48 h49 => ?_)
              refine ty_icmp_ne (tgt := 253) hx hb dX9_next_246 (by decide) (fun c50 => ?_) (fun c50 => ?_)
              · skip
                refine ty_iconst hx hb (1) dX9_next_253 (by decide) (fun x51 h52 => ?_)
                refine put_X9_17 hx hb hA hown hE hG hS hU t_h0 wd_4_147 dX9_next_254 (fun H locs hG hS => ?_)
                generalize eg54 : (gs (gs (gs g1 116 0 x11.toInt) 115 0 x35.toInt) 117 0 x51.toInt) = g53 at hG
                have hf55 : ∀ c j : Nat, c ≠ 116 → c ≠ 115 → c ≠ 117 → g53 c j = g1 c j := fun c j h116 h115 h117 => by rw [← eg54, gs_c _ _ _ _ h117, gs_c _ _ _ _ h115, gs_c _ _ _ _ h116]
                have v56 : g53 116 0 = x11.toInt := by rw [← eg54, gs_c _ _ _ _ (by decide), gs_c _ _ _ _ (by decide), gs_self]
                have v57 : g53 115 0 = x35.toInt := by rw [← eg54, gs_c _ _ _ _ (by decide), gs_self]
                have v58 : g53 117 0 = x51.toInt := by rw [← eg54, gs_self]
                exact W.vret hx hb hr (fun t ht hW => ⟨⟨g53, rfl, ⟨(fun c j h115 h116 h117 h118 => by rw [hf55 c j h116 h115 h117, hf2 c j h115]), (by omega)⟩, ok1 ht hG⟩, hS.F ht⟩) hS.2.2 dX9_next_257
              · skip
                refine ty_iconst hx hb (4) dX9_next_249 (by decide) (fun x59 h60 => ?_)
                refine lv_goto (tgt := 254) hx hb dX9_next_250 (by decide) ?_
                refine put_X9_17 hx hb hA hown hE hG hS hU t_h0 wd_4_147 dX9_next_254 (fun H locs hG hS => ?_)
                generalize eg62 : (gs (gs (gs g1 116 0 x11.toInt) 115 0 x35.toInt) 117 0 x59.toInt) = g61 at hG
                have hf63 : ∀ c j : Nat, c ≠ 116 → c ≠ 115 → c ≠ 117 → g61 c j = g1 c j := fun c j h116 h115 h117 => by rw [← eg62, gs_c _ _ _ _ h117, gs_c _ _ _ _ h115, gs_c _ _ _ _ h116]
                have v64 : g61 116 0 = x11.toInt := by rw [← eg62, gs_c _ _ _ _ (by decide), gs_c _ _ _ _ (by decide), gs_self]
                have v65 : g61 115 0 = x35.toInt := by rw [← eg62, gs_c _ _ _ _ (by decide), gs_self]
                have v66 : g61 117 0 = x59.toInt := by rw [← eg62, gs_self]
                exact W.vret hx hb hr (fun t ht hW => ⟨⟨g61, rfl, ⟨(fun c j h115 h116 h117 h118 => by rw [hf63 c j h116 h115 h117, hf2 c j h115]), (by omega)⟩, ok1 ht hG⟩, hS.F ht⟩) hS.2.2 dX9_next_257
            · skip
              refine lv_aload_n hx hb dX9_next_146 rfl (lv_at hl 1 rfl) ?_
              refine lv_iload_n hx hb dX9_next_147 rfl (lv_at hl 0 rfl) ?_
              refine ty_bipush hx hb (48) dX9_next_148 (by decide) (fun x67 h68 => ?_)
              refine ty_isub hx hb dX9_next_150 (fun x69 h70 => ?_)
              refine put_X9_18 hx hb hA hown hE hG hS hU t_h0 wd_4_148 dX9_next_151 (fun H locs hG hS => ?_)
              have e73 : (gs (gs (gs g1 116 0 x11.toInt) 115 0 x35.toInt) 118 0 x69.toInt) 114 0 = g1 114 0 := by simp [gs]
              have e74 : (gs (gs (gs g1 116 0 x11.toInt) 115 0 x35.toInt) 118 0 x69.toInt) 115 0 = x35.toInt := by simp [gs]
              have e75 : (gs (gs (gs g1 116 0 x11.toInt) 115 0 x35.toInt) 118 0 x69.toInt) 116 0 = x11.toInt := by simp [gs]
              have L_154 : ∀ (n : Nat)  (g72 : gh) (H : Heap) (locs : List Loc) (ls : Array Slot), (g72 114 0 - g72 115 0 : Int) < n → 0 ≤ (gs (gs (gs g1 116 0 x11.toInt) 115 0 x35.toInt) 118 0 x69.toInt) 115 0 ∧ (gs (gs (gs g1 116 0 x11.toInt) 115 0 x35.toInt) 118 0 x69.toInt) 116 0 ≤ (gs (gs (gs g1 116 0 x11.toInt) 115 0 x35.toInt) 118 0 x69.toInt) 115 0 ∧ (gs (gs (gs g1 116 0 x11.toInt) 115 0 x35.toInt) 118 0 x69.toInt) 115 0 ≤ g72 115 0 ∧ g72 115 0 ≤ g72 114 0 → (∀ c j : Nat, c ≠ 115 → c ≠ 118 → g72 c j = (gs (gs (gs g1 116 0 x11.toInt) 115 0 x35.toInt) 118 0 x69.toInt) c j) → ty_ok (dC, dI) vwCl Γ (TP dA Γ g72) sz X H → va_S (ty_A sz) s.heap H locs → lv_has ls 2 [(1, .int x25), (0, .ref h0)] → W p l e (headSpec (.code yX9_next cX9_next 2 (Option.none : Option Jvm.ClassFile.FieldType) :: AL) ({ frames := 1, cells := 0, slots := 0, locals := 21 })).room s m ([.ref h0] : List Value).toArray below meth c H locs 0 0 (MQ below (va_Qv (fun (u : gh) => (∀ c j : Nat, c ≠ 115 → c ≠ 116 → c ≠ 117 → c ≠ 118 → u c j = g c j) ∧ ((0 ≤ u 116 0 ∧ u 116 0 ≤ u 115 0 ∧ u 115 0 ≤ g 114 0))) (okb dC dI dA sz X Γ) (ty_A sz)) ([.ref h0] : List Value).toArray s 0 0 (ty_A sz)) (F0 m 154 ls []) := by
                intro n
                induction n with
                | zero => intro g72 H locs ls hm hi0 hf76 hG hS hl; exfalso; omega
                | succ n ih_154 =>
                  intro g72 H locs ls hm hi0 hf76 hG hS hl
                  have hk77 : g72 114 0 = (gs (gs (gs g1 116 0 x11.toInt) 115 0 x35.toInt) 118 0 x69.toInt) 114 0 := hf76 114 0 (by decide) (by decide)
                  have hk77 : g72 114 0 = g1 114 0 := by rw [hk77]; simp [gs]
                  refine lv_aload_n hx hb dX9_next_154 rfl (lv_at hl 1 rfl) ?_
                  refine lv_aload_n hx hb dX9_next_155 rfl (lv_at hl 1 rfl) ?_
                  refine get_X9_15 hx hb hA hown hE hG t_h0 wd_4_145 dX9_next_156 (fun x78 h79 => ?_)
                  refine cI (va_runV (C := RX9) (As := [.int x78]) (rest := []) ⟨hx, hb, hml, hown, hA⟩ (k_X9_see l dC dI dA sz X Γ hU g72 h0 t_h0 x78   (by omega)) ⟨callB_of 1 hA (al_A wd_5_81) rfl rfl rfl (hA _ wd_1_7) (hA _ wd_5_78) (by decide +kernel) ⟨Nat.le_of_ble_eq_true rfl, Nat.le_of_ble_eq_true rfl⟩, hA _ wd_5_80, hA _ ws_40⟩ ⟨bl, recv_X9 hE hG t_h0, fun U hU9 hW9 => ⟨rfl, by rw [hU9]; exact hG, hE.go hS hU9 hW9⟩⟩ rfl rfl hl.1 rfl (lv_room (Nat.le_of_ble_eq_true rfl)) dX9_next_159 ⟨Nat.zero_le _, Nat.zero_le _⟩) hS (fun x83 u81 H locs w82 hG hS => ?_)
                  obtain ⟨eu84, w82⟩ := w82
                  rw [eu84] at hG
                  refine cI (va_runS (As := [.int x83]) (rest := []) ⟨hx, hb, hml, hown, hA⟩ (k_X9_isDigit l dC dI dA sz X Γ hU g72 x83   ) ⟨callB_of 1 hA (al_A wd_5_84) rfl rfl rfl (hA _ wd_1_7) (hA _ wd_5_82) (by decide +kernel) ⟨Nat.le_of_ble_eq_true rfl, Nat.le_of_ble_eq_true rfl⟩, hA _ wd_5_83⟩ ⟨bl, fun U hU9 hW9 => ⟨rfl, by rw [hU9]; exact hG, hE.go hS hU9 hW9⟩⟩ rfl rfl hl.1 rfl (lv_room (Nat.le_of_ble_eq_true rfl)) dX9_next_162 ⟨Nat.zero_le _, Nat.zero_le _⟩) hS (fun x87 u85 H locs w86 hG hS => ?_)
                  obtain ⟨eu88, w86⟩ := w86
                  rw [eu88] at hG
                  refine ty_if_eq (tgt := 217) hx hb dX9_next_165 (by decide) (fun c89 => ?_) (fun c89 => ?_)
                  · skip
                    refine lv_aload_n hx hb dX9_next_217 rfl (lv_at hl 1 rfl) ?_
                    refine lv_aload_n hx hb dX9_next_218 rfl (lv_at hl 1 rfl) ?_
                    refine get_X9_15 hx hb hA hown hE hG t_h0 wd_4_145 dX9_next_219 (fun x90 h91 => ?_)
                    refine lv_aload_n hx hb dX9_next_222 rfl (lv_at hl 1 rfl) ?_
                    refine get_X9_16 hx hb hA hown hE hG t_h0 wd_4_146 dX9_next_223 (fun x93 h94 => ?_)
                    have hk96 : g72 116 0 = (gs (gs (gs g1 116 0 x11.toInt) 115 0 x35.toInt) 118 0 x69.toInt) 116 0 := hf76 116 0 (by decide) (by decide)
                    have hk96 : g72 116 0 = x11.toInt := by rw [hk96]; simp [gs]
                    refine ty_isub hx hb dX9_next_226 (fun x97 h98 => ?_)
                    try have h99 : x97.toInt = x90.toInt - x93.toInt := ty_sub h98 (by omega) (by omega)
                    refine ty_iconst hx hb (4) dX9_next_227 (by decide) (fun x100 h101 => ?_)
                    refine ty_icmp_le (tgt := 235) hx hb dX9_next_228 (by decide) (fun c102 => ?_) (fun c102 => ?_)
                    · skip
                      refine ty_iconst hx hb (2) dX9_next_235 (by decide) (fun x103 h104 => ?_)
                      refine put_X9_17 hx hb hA hown hE hG hS hU t_h0 wd_4_147 dX9_next_236 (fun H locs hG hS => ?_)
                      refine lv_goto (tgt := 257) hx hb dX9_next_239 (by decide) ?_
                      have e105 : (gs g72 117 0 x103.toInt) 115 0 = g72 115 0 := by simp [gs]
                      have hk106 : g1 116 0 = g 116 0 := hf2 116 0 (by decide)
                      have e107 : (gs g72 117 0 x103.toInt) 116 0 = g72 116 0 := by simp [gs]
                      exact W.vret hx hb hr (fun t ht hW => ⟨⟨(gs g72 117 0 x103.toInt), rfl, ⟨(fun c j h115 h116 h117 h118 => by rw [gs_c _ _ _ _ h117, hf76 c j h115 h118, gs_c _ _ _ _ h118, gs_c _ _ _ _ h115, gs_c _ _ _ _ h116, hf2 c j h115]), (by omega)⟩, ok1 ht hG⟩, hS.F ht⟩) hS.2.2 dX9_next_257
                    · skip
                      refine ty_iconst hx hb (1) dX9_next_231 (by decide) (fun x108 h109 => ?_)
                      refine lv_goto (tgt := 236) hx hb dX9_next_232 (by decide) ?_
                      refine put_X9_17 hx hb hA hown hE hG hS hU t_h0 wd_4_147 dX9_next_236 (fun H locs hG hS => ?_)
                      refine lv_goto (tgt := 257) hx hb dX9_next_239 (by decide) ?_
                      have e110 : (gs g72 117 0 x108.toInt) 115 0 = g72 115 0 := by simp [gs]
                      have hk111 : g1 116 0 = g 116 0 := hf2 116 0 (by decide)
                      have e112 : (gs g72 117 0 x108.toInt) 116 0 = g72 116 0 := by simp [gs]
                      exact W.vret hx hb hr (fun t ht hW => ⟨⟨(gs g72 117 0 x108.toInt), rfl, ⟨(fun c j h115 h116 h117 h118 => by rw [gs_c _ _ _ _ h117, hf76 c j h115 h118, gs_c _ _ _ _ h118, gs_c _ _ _ _ h115, gs_c _ _ _ _ h116, hf2 c j h115]), (by omega)⟩, ok1 ht hG⟩, hS.F ht⟩) hS.2.2 dX9_next_257
                  · skip
                    refine lv_aload_n hx hb dX9_next_168 rfl (lv_at hl 1 rfl) ?_
                    refine get_X9_15 hx hb hA hown hE hG t_h0 wd_4_145 dX9_next_169 (fun x113 h114 => ?_)
                    refine lv_aload_n hx hb dX9_next_172 rfl (lv_at hl 1 rfl) ?_
                    refine get_X9_16 hx hb hA hown hE hG t_h0 wd_4_146 dX9_next_173 (fun x116 h117 => ?_)
                    have hk119 : g72 116 0 = (gs (gs (gs g1 116 0 x11.toInt) 115 0 x35.toInt) 118 0 x69.toInt) 116 0 := hf76 116 0 (by decide) (by decide)
                    have hk119 : g72 116 0 = x11.toInt := by rw [hk119]; simp [gs]
                    refine ty_isub hx hb dX9_next_176 (fun x120 h121 => ?_)
                    try have h122 : x120.toInt = x113.toInt - x116.toInt := ty_sub h121 (by omega) (by omega)
                    refine ty_iconst hx hb (4) dX9_next_177 (by decide) (fun x123 h124 => ?_)
                    refine ty_icmp_ge (tgt := 204) hx hb dX9_next_178 (by decide) (fun c125 => ?_) (fun c125 => ?_)
                    · skip
                      refine lv_aload_n hx hb dX9_next_204 rfl (lv_at hl 1 rfl) ?_
                      refine lv_dup hx hb dX9_next_205 rfl ?_
                      refine get_X9_15 hx hb hA hown hE hG t_h0 wd_4_145 dX9_next_206 (fun x126 h127 => ?_)
                      refine ty_iconst hx hb (1) dX9_next_209 (by decide) (fun x129 h130 => ?_)
                      refine ty_iadd hx hb dX9_next_210 (fun x131 h132 => ?_)
                      try have h133 : x131.toInt = x126.toInt + x129.toInt := ty_add h132 (by omega) (by omega)
                      refine put_X9_15 hx hb hA hown hE hG hS hU t_h0 wd_4_145 dX9_next_211 (fun H locs hG hS => ?_)
                      refine lv_goto (tgt := 154) hx hb dX9_next_214 (by decide) ?_
                      have e134 : (gs g72 115 0 x131.toInt) 114 0 = g72 114 0 := by simp [gs]
                      have e135 : (gs g72 115 0 x131.toInt) 115 0 = x131.toInt := by simp [gs]
                      exact ih_154 (gs g72 115 0 x131.toInt) _ _ ls (by omega) (by omega) (fun c j h115 h118 => by rw [gs_c _ _ _ _ h115, hf76 c j h115 h118]) hG hS (lv_sub hl [0, 1] rfl)
                    · skip
                      refine lv_aload_n hx hb dX9_next_181 rfl (lv_at hl 1 rfl) ?_
                      refine ty_bipush hx hb (10) dX9_next_182 (by decide) (fun x136 h137 => ?_)
                      refine lv_aload_n hx hb dX9_next_184 rfl (lv_at hl 1 rfl) ?_
                      refine get_X9_18 hx hb hA hown hE hG t_h0 wd_4_148 dX9_next_185 (fun x138 h139 => ?_)
                      refine ty_imul hx hb dX9_next_188 (fun x141 h142 => ?_)
                      try have h143 : x141.toInt = 10 * x138.toInt := ty_mull h142 (by omega) (by omega) (by omega)
                      refine lv_aload_n hx hb dX9_next_189 rfl (lv_at hl 1 rfl) ?_
                      refine lv_aload_n hx hb dX9_next_190 rfl (lv_at hl 1 rfl) ?_
                      refine get_X9_15 hx hb hA hown hE hG t_h0 wd_4_145 dX9_next_191 (fun x144 h145 => ?_)
                      refine cI (va_runV (C := RX9) (As := [.int x144]) (rest := [.int x141, .ref h0]) ⟨hx, hb, hml, hown, hA⟩ (k_X9_see l dC dI dA sz X Γ hU g72 h0 t_h0 x144   (by omega)) ⟨callB_of 1 hA (al_A wd_5_81) rfl rfl rfl (hA _ wd_1_7) (hA _ wd_5_78) (by decide +kernel) ⟨Nat.le_of_ble_eq_true rfl, Nat.le_of_ble_eq_true rfl⟩, hA _ wd_5_80, hA _ ws_40⟩ ⟨bl, recv_X9 hE hG t_h0, fun U hU9 hW9 => ⟨rfl, by rw [hU9]; exact hG, hE.go hS hU9 hW9⟩⟩ rfl rfl hl.1 rfl (lv_room (Nat.le_of_ble_eq_true rfl)) dX9_next_194 ⟨Nat.zero_le _, Nat.zero_le _⟩) hS (fun x149 u147 H locs w148 hG hS => ?_)
                      obtain ⟨eu150, w148⟩ := w148
                      rw [eu150] at hG
                      refine ty_iadd hx hb dX9_next_197 (fun x151 h152 => ?_)
                      try have h153 : x151.toInt = x141.toInt + x149.toInt := ty_add h152 (by omega) (by omega)
                      refine ty_bipush hx hb (48) dX9_next_198 (by decide) (fun x154 h155 => ?_)
                      refine ty_isub hx hb dX9_next_200 (fun x156 h157 => ?_)
                      try have h158 : x156.toInt = x151.toInt - x154.toInt := ty_sub h157 (by omega) (by omega)
                      refine put_X9_18 hx hb hA hown hE hG hS hU t_h0 wd_4_148 dX9_next_201 (fun H locs hG hS => ?_)
                      refine lv_aload_n hx hb dX9_next_204 rfl (lv_at hl 1 rfl) ?_
                      refine lv_dup hx hb dX9_next_205 rfl ?_
                      refine get_X9_15 hx hb hA hown hE hG t_h0 wd_4_145 dX9_next_206 (fun x159 h160 => ?_)
                      replace h160 : x159.toInt = g72 115 0 := by rw [h160]; simp [gs]
                      refine ty_iconst hx hb (1) dX9_next_209 (by decide) (fun x162 h163 => ?_)
                      refine ty_iadd hx hb dX9_next_210 (fun x164 h165 => ?_)
                      try have h166 : x164.toInt = x159.toInt + x162.toInt := ty_add h165 (by omega) (by omega)
                      refine put_X9_15 hx hb hA hown hE hG hS hU t_h0 wd_4_145 dX9_next_211 (fun H locs hG hS => ?_)
                      refine lv_goto (tgt := 154) hx hb dX9_next_214 (by decide) ?_
                      have e167 : (gs (gs g72 118 0 x156.toInt) 115 0 x164.toInt) 114 0 = g72 114 0 := by simp [gs]
                      have e168 : (gs (gs g72 118 0 x156.toInt) 115 0 x164.toInt) 115 0 = x164.toInt := by simp [gs]
                      exact ih_154 (gs (gs g72 118 0 x156.toInt) 115 0 x164.toInt) _ _ ls (by omega) (by omega) (fun c j h115 h118 => by rw [gs_c _ _ _ _ h115, gs_c _ _ _ _ h118, hf76 c j h115 h118]) hG hS (lv_sub hl [0, 1] rfl)
              have e169 : (gs (gs (gs g1 116 0 x11.toInt) 115 0 x35.toInt) 118 0 x69.toInt) 114 0 = g1 114 0 := by simp [gs]
              have e170 : (gs (gs (gs g1 116 0 x11.toInt) 115 0 x35.toInt) 118 0 x69.toInt) 115 0 = x35.toInt := by simp [gs]
              exact L_154 (((gs (gs (gs g1 116 0 x11.toInt) 115 0 x35.toInt) 118 0 x69.toInt) 114 0 - (gs (gs (gs g1 116 0 x11.toInt) 115 0 x35.toInt) 118 0 x69.toInt) 115 0) + 1).toNat (gs (gs (gs g1 116 0 x11.toInt) 115 0 x35.toInt) 118 0 x69.toInt) _ _ ls (by omega) (by omega) (fun c j _ _ => rfl) hG hS (lv_sub hl [0, 1] rfl)
          · skip
            have e172 : (gs (gs g1 116 0 x11.toInt) 115 0 x35.toInt) 114 0 = g1 114 0 := by simp [gs]
            have e173 : (gs (gs g1 116 0 x11.toInt) 115 0 x35.toInt) 115 0 = x35.toInt := by simp [gs]
            have e174 : (gs (gs g1 116 0 x11.toInt) 115 0 x35.toInt) 116 0 = x11.toInt := by simp [gs]
            have L_104 : ∀ (n : Nat)  (g171 : gh) (H : Heap) (locs : List Loc) (ls : Array Slot), (g171 114 0 - g171 115 0 : Int) < n → 0 ≤ (gs (gs g1 116 0 x11.toInt) 115 0 x35.toInt) 115 0 ∧ (gs (gs g1 116 0 x11.toInt) 115 0 x35.toInt) 116 0 ≤ (gs (gs g1 116 0 x11.toInt) 115 0 x35.toInt) 115 0 ∧ (gs (gs g1 116 0 x11.toInt) 115 0 x35.toInt) 115 0 ≤ g171 115 0 ∧ g171 115 0 ≤ g171 114 0 → (∀ c j : Nat, c ≠ 115 → g171 c j = (gs (gs g1 116 0 x11.toInt) 115 0 x35.toInt) c j) → ty_ok (dC, dI) vwCl Γ (TP dA Γ g171) sz X H → va_S (ty_A sz) s.heap H locs → lv_has ls 2 [(1, .int x25), (0, .ref h0)] → W p l e (headSpec (.code yX9_next cX9_next 2 (Option.none : Option Jvm.ClassFile.FieldType) :: AL) ({ frames := 1, cells := 0, slots := 0, locals := 21 })).room s m ([.ref h0] : List Value).toArray below meth c H locs 0 0 (MQ below (va_Qv (fun (u : gh) => (∀ c j : Nat, c ≠ 115 → c ≠ 116 → c ≠ 117 → c ≠ 118 → u c j = g c j) ∧ ((0 ≤ u 116 0 ∧ u 116 0 ≤ u 115 0 ∧ u 115 0 ≤ g 114 0))) (okb dC dI dA sz X Γ) (ty_A sz)) ([.ref h0] : List Value).toArray s 0 0 (ty_A sz)) (F0 m 104 ls []) := by
              intro n
              induction n with
              | zero => intro g171 H locs ls hm hi0 hf175 hG hS hl; exfalso; omega
              | succ n ih_104 =>
                intro g171 H locs ls hm hi0 hf175 hG hS hl
                have hk176 : g171 114 0 = (gs (gs g1 116 0 x11.toInt) 115 0 x35.toInt) 114 0 := hf175 114 0 (by decide)
                have hk176 : g171 114 0 = g1 114 0 := by rw [hk176]; simp [gs]
                refine lv_aload_n hx hb dX9_next_104 rfl (lv_at hl 1 rfl) ?_
                refine lv_aload_n hx hb dX9_next_105 rfl (lv_at hl 1 rfl) ?_
                refine get_X9_15 hx hb hA hown hE hG t_h0 wd_4_145 dX9_next_106 (fun x177 h178 => ?_)
                refine cI (va_runV (C := RX9) (As := [.int x177]) (rest := []) ⟨hx, hb, hml, hown, hA⟩ (k_X9_see l dC dI dA sz X Γ hU g171 h0 t_h0 x177   (by omega)) ⟨callB_of 1 hA (al_A wd_5_81) rfl rfl rfl (hA _ wd_1_7) (hA _ wd_5_78) (by decide +kernel) ⟨Nat.le_of_ble_eq_true rfl, Nat.le_of_ble_eq_true rfl⟩, hA _ wd_5_80, hA _ ws_40⟩ ⟨bl, recv_X9 hE hG t_h0, fun U hU9 hW9 => ⟨rfl, by rw [hU9]; exact hG, hE.go hS hU9 hW9⟩⟩ rfl rfl hl.1 rfl (lv_room (Nat.le_of_ble_eq_true rfl)) dX9_next_109 ⟨Nat.zero_le _, Nat.zero_le _⟩) hS (fun x182 u180 H locs w181 hG hS => ?_)
                obtain ⟨eu183, w181⟩ := w181
                rw [eu183] at hG
                refine cI (va_runS (As := [.int x182]) (rest := []) ⟨hx, hb, hml, hown, hA⟩ (k_X9_isSmall l dC dI dA sz X Γ hU g171 x182   ) ⟨callB_of 1 hA (al_A wd_5_77) rfl rfl rfl (hA _ wd_1_7) (hA _ wd_5_75) (by decide +kernel) ⟨Nat.le_of_ble_eq_true rfl, Nat.le_of_ble_eq_true rfl⟩, hA _ wd_5_76⟩ ⟨bl, fun U hU9 hW9 => ⟨rfl, by rw [hU9]; exact hG, hE.go hS hU9 hW9⟩⟩ rfl rfl hl.1 rfl (lv_room (Nat.le_of_ble_eq_true rfl)) dX9_next_112 ⟨Nat.zero_le _, Nat.zero_le _⟩) hS (fun x186 u184 H locs w185 hG hS => ?_)
                obtain ⟨eu187, w185⟩ := w185
                rw [eu187] at hG
                refine ty_if_eq (tgt := 131) hx hb dX9_next_115 (by decide) (fun c188 => ?_) (fun c188 => ?_)
                · skip
                  refine lv_aload_n hx hb dX9_next_131 rfl (lv_at hl 1 rfl) ?_
                  refine ty_iconst hx hb (3) dX9_next_132 (by decide) (fun x189 h190 => ?_)
                  refine put_X9_17 hx hb hA hown hE hG hS hU t_h0 wd_4_147 dX9_next_133 (fun H locs hG hS => ?_)
                  refine lv_goto (tgt := 257) hx hb dX9_next_136 (by decide) ?_
                  have e191 : (gs g171 117 0 x189.toInt) 115 0 = g171 115 0 := by simp [gs]
                  have hk192 : g171 116 0 = (gs (gs g1 116 0 x11.toInt) 115 0 x35.toInt) 116 0 := hf175 116 0 (by decide)
                  have hk192 : g171 116 0 = x11.toInt := by rw [hk192]; simp [gs]
                  have e193 : (gs g171 117 0 x189.toInt) 116 0 = g171 116 0 := by simp [gs]
                  exact W.vret hx hb hr (fun t ht hW => ⟨⟨(gs g171 117 0 x189.toInt), rfl, ⟨(fun c j h115 h116 h117 h118 => by rw [gs_c _ _ _ _ h117, hf175 c j h115, gs_c _ _ _ _ h115, gs_c _ _ _ _ h116, hf2 c j h115]), (by omega)⟩, ok1 ht hG⟩, hS.F ht⟩) hS.2.2 dX9_next_257
                · skip
                  refine lv_aload_n hx hb dX9_next_118 rfl (lv_at hl 1 rfl) ?_
                  refine lv_dup hx hb dX9_next_119 rfl ?_
                  refine get_X9_15 hx hb hA hown hE hG t_h0 wd_4_145 dX9_next_120 (fun x194 h195 => ?_)
                  refine ty_iconst hx hb (1) dX9_next_123 (by decide) (fun x197 h198 => ?_)
                  refine ty_iadd hx hb dX9_next_124 (fun x199 h200 => ?_)
                  try have h201 : x199.toInt = x194.toInt + x197.toInt := ty_add h200 (by omega) (by omega)
                  refine put_X9_15 hx hb hA hown hE hG hS hU t_h0 wd_4_145 dX9_next_125 (fun H locs hG hS => ?_)
                  refine lv_goto (tgt := 104) hx hb dX9_next_128 (by decide) ?_
                  have e202 : (gs g171 115 0 x199.toInt) 114 0 = g171 114 0 := by simp [gs]
                  have e203 : (gs g171 115 0 x199.toInt) 115 0 = x199.toInt := by simp [gs]
                  exact ih_104 (gs g171 115 0 x199.toInt) _ _ ls (by omega) (by omega) (fun c j h115 => by rw [gs_c _ _ _ _ h115, hf175 c j h115]) hG hS (lv_sub hl [0, 1] rfl)
            have e204 : (gs (gs g1 116 0 x11.toInt) 115 0 x35.toInt) 114 0 = g1 114 0 := by simp [gs]
            have e205 : (gs (gs g1 116 0 x11.toInt) 115 0 x35.toInt) 115 0 = x35.toInt := by simp [gs]
            exact L_104 (((gs (gs g1 116 0 x11.toInt) 115 0 x35.toInt) 114 0 - (gs (gs g1 116 0 x11.toInt) 115 0 x35.toInt) 115 0) + 1).toNat (gs (gs g1 116 0 x11.toInt) 115 0 x35.toInt) _ _ ls (by omega) (by omega) (fun c j _ => rfl) hG hS (lv_sub hl [0, 1] rfl)
        · skip
          refine lv_aload_n hx hb dX9_next_71 rfl (lv_at hl 0 rfl) ?_
          refine ty_iconst hx hb (0) dX9_next_72 (by decide) (fun x206 h207 => ?_)
          refine put_X9_17 hx hb hA hown hE hG hS hU t_h0 wd_4_147 dX9_next_73 (fun H locs hG hS => ?_)
          have e208 : (gs (gs g1 116 0 x11.toInt) 117 0 x206.toInt) 115 0 = g1 115 0 := by simp [gs]
          have e209 : (gs (gs g1 116 0 x11.toInt) 117 0 x206.toInt) 116 0 = x11.toInt := by simp [gs]
          exact W.vret hx hb hr (fun t ht hW => ⟨⟨(gs (gs g1 116 0 x11.toInt) 117 0 x206.toInt), rfl, ⟨(fun c j h115 h116 h117 h118 => by rw [gs_c _ _ _ _ h117, gs_c _ _ _ _ h116, hf2 c j h115]), (by omega)⟩, ok1 ht hG⟩, hS.F ht⟩) hS.2.2 dX9_next_76
      · skip
        refine lv_aload_n hx hb dX9_next_11 rfl (lv_at hl 0 rfl) ?_
        refine get_X9_13 hx hb hA hown hE hG t_h0 wd_4_143 dX9_next_12 (fun b210 (t_b210 : ty Γ b210 113) => ?_)
        refine lv_aload_n hx hb dX9_next_15 rfl (lv_at hl 0 rfl) ?_
        refine get_X9_15 hx hb hA hown hE hG t_h0 wd_4_145 dX9_next_16 (fun x211 h212 => ?_)
        refine ald_mB hx hb hE hG 13 rfl (n := 300) rfl (lo := -2147483648) (hi := 2147483647) rfl rfl t_b210 (by omega) dX9_next_19 (fun j215 x214 h216 h217 h218 => ?_)
        clear h218
        refine ty_bipush hx hb (32) dX9_next_20 (by decide) (fun x219 h220 => ?_)
        refine ty_icmp_eq (tgt := 39) hx hb dX9_next_22 (by decide) (fun c221 => ?_) (fun c221 => ?_)
        · skip
          refine lv_aload_n hx hb dX9_next_39 rfl (lv_at hl 0 rfl) ?_
          refine lv_dup hx hb dX9_next_40 rfl ?_
          refine get_X9_15 hx hb hA hown hE hG t_h0 wd_4_145 dX9_next_41 (fun x222 h223 => ?_)
          refine ty_iconst hx hb (1) dX9_next_44 (by decide) (fun x225 h226 => ?_)
          refine ty_iadd hx hb dX9_next_45 (fun x227 h228 => ?_)
          try have h229 : x227.toInt = x222.toInt + x225.toInt := ty_add h228 (by omega) (by omega)
          refine put_X9_15 hx hb hA hown hE hG hS hU t_h0 wd_4_145 dX9_next_46 (fun H locs hG hS => ?_)
          refine lv_goto (tgt := 0) hx hb dX9_next_49 (by decide) ?_
          have e230 : (gs g1 115 0 x227.toInt) 114 0 = g1 114 0 := by simp [gs]
          have e231 : (gs g1 115 0 x227.toInt) 115 0 = x227.toInt := by simp [gs]
          exact ih_0 (gs g1 115 0 x227.toInt) _ _ ls (by omega) (by omega) (fun c j h115 => by rw [gs_c _ _ _ _ h115, hf2 c j h115]) hG hS (lv_sub hl [0] rfl)
        · skip
          refine lv_aload_n hx hb dX9_next_25 rfl (lv_at hl 0 rfl) ?_
          refine get_X9_13 hx hb hA hown hE hG t_h0 wd_4_143 dX9_next_26 (fun b232 (t_b232 : ty Γ b232 113) => ?_)
          refine lv_aload_n hx hb dX9_next_29 rfl (lv_at hl 0 rfl) ?_
          refine get_X9_15 hx hb hA hown hE hG t_h0 wd_4_145 dX9_next_30 (fun x233 h234 => ?_)
          refine ald_mB hx hb hE hG 13 rfl (n := 300) rfl (lo := -2147483648) (hi := 2147483647) rfl rfl t_b232 (by omega) dX9_next_33 (fun j237 x236 h238 h239 h240 => ?_)
          clear h240
          refine ty_bipush hx hb (10) dX9_next_34 (by decide) (fun x241 h242 => ?_)
          refine ty_icmp_ne (tgt := 52) hx hb dX9_next_36 (by decide) (fun c243 => ?_) (fun c243 => ?_)
          · skip
            refine lv_aload_n hx hb dX9_next_52 rfl (lv_at hl 0 rfl) ?_
            refine lv_aload_n hx hb dX9_next_53 rfl (lv_at hl 0 rfl) ?_
            refine get_X9_15 hx hb hA hown hE hG t_h0 wd_4_145 dX9_next_54 (fun x244 h245 => ?_)
            refine put_X9_16 hx hb hA hown hE hG hS hU t_h0 wd_4_146 dX9_next_57 (fun H locs hG hS => ?_)
            refine lv_aload_n hx hb dX9_next_60 rfl (lv_at hl 0 rfl) ?_
            refine get_X9_15 hx hb hA hown hE hG t_h0 wd_4_145 dX9_next_61 (fun x247 h248 => ?_)
            replace h248 : x247.toInt = g1 115 0 := by rw [h248]; simp [gs]
            refine lv_aload_n hx hb dX9_next_64 rfl (lv_at hl 0 rfl) ?_
            refine get_X9_14 hx hb hA hown hE hG t_h0 wd_4_144 dX9_next_65 (fun x250 h251 => ?_)
            replace h251 : x250.toInt = g1 114 0 := by rw [h251]; simp [gs]
            refine ty_icmp_lt (tgt := 77) hx hb dX9_next_68 (by decide) (fun c253 => ?_) (fun c253 => ?_)
            · skip
              refine lv_aload_n hx hb dX9_next_77 rfl (lv_at hl 0 rfl) ?_
              refine get_X9_13 hx hb hA hown hE hG t_h0 wd_4_143 dX9_next_78 (fun b254 (t_b254 : ty Γ b254 113) => ?_)
              refine lv_aload_n hx hb dX9_next_81 rfl (lv_at hl 0 rfl) ?_
              refine get_X9_15 hx hb hA hown hE hG t_h0 wd_4_145 dX9_next_82 (fun x255 h256 => ?_)
              replace h256 : x255.toInt = g1 115 0 := by rw [h256]; simp [gs]
              refine ald_mB hx hb hE hG 13 rfl (n := 300) rfl (lo := -2147483648) (hi := 2147483647) rfl rfl t_b254 (by omega) dX9_next_85 (fun j259 x258 h260 h261 h262 => ?_)
              clear h262
              refine lv_istore_n (lv' := [(1, .int x258), (0, .ref h0)]) hx hb dX9_next_86 rfl hl (by decide) rfl (fun ls hl => ?_)
              refine lv_aload_n hx hb dX9_next_87 rfl (lv_at hl 1 rfl) ?_
              refine lv_dup hx hb dX9_next_88 rfl ?_
              refine get_X9_15 hx hb hA hown hE hG t_h0 wd_4_145 dX9_next_89 (fun x263 h264 => ?_)
              replace h264 : x263.toInt = g1 115 0 := by rw [h264]; simp [gs]
              refine ty_iconst hx hb (1) dX9_next_92 (by decide) (fun x266 h267 => ?_)
              refine ty_iadd hx hb dX9_next_93 (fun x268 h269 => ?_)
              try have h270 : x268.toInt = x263.toInt + x266.toInt := ty_add h269 (by omega) (by omega)
              refine put_X9_15 hx hb hA hown hE hG hS hU t_h0 wd_4_145 dX9_next_94 (fun H locs hG hS => ?_)
              refine lv_iload_n hx hb dX9_next_97 rfl (lv_at hl 0 rfl) ?_
              refine cI (va_runS (As := [.int x258]) (rest := []) ⟨hx, hb, hml, hown, hA⟩ (k_X9_isSmall l dC dI dA sz X Γ hU (gs (gs g1 116 0 x244.toInt) 115 0 x268.toInt) x258   ) ⟨callB_of 1 hA (al_A wd_5_77) rfl rfl rfl (hA _ wd_1_7) (hA _ wd_5_75) (by decide +kernel) ⟨Nat.le_of_ble_eq_true rfl, Nat.le_of_ble_eq_true rfl⟩, hA _ wd_5_76⟩ ⟨bl, fun U hU9 hW9 => ⟨rfl, by rw [hU9]; exact hG, hE.go hS hU9 hW9⟩⟩ rfl rfl hl.1 rfl (lv_room (Nat.le_of_ble_eq_true rfl)) dX9_next_98 ⟨Nat.zero_le _, Nat.zero_le _⟩) hS (fun x273 u271 H locs w272 hG hS => ?_)
              obtain ⟨eu274, w272⟩ := w272
              rw [eu274] at hG
              refine ty_if_eq (tgt := 139) hx hb dX9_next_101 (by decide) (fun c275 => ?_) (fun c275 => ?_)
              · skip
                refine lv_iload_n hx hb dX9_next_139 rfl (lv_at hl 0 rfl) ?_
                refine cI (va_runS (As := [.int x258]) (rest := []) ⟨hx, hb, hml, hown, hA⟩ (k_X9_isDigit l dC dI dA sz X Γ hU (gs (gs g1 116 0 x244.toInt) 115 0 x268.toInt) x258   ) ⟨callB_of 1 hA (al_A wd_5_84) rfl rfl rfl (hA _ wd_1_7) (hA _ wd_5_82) (by decide +kernel) ⟨Nat.le_of_ble_eq_true rfl, Nat.le_of_ble_eq_true rfl⟩, hA _ wd_5_83⟩ ⟨bl, fun U hU9 hW9 => ⟨rfl, by rw [hU9]; exact hG, hE.go hS hU9 hW9⟩⟩ rfl rfl hl.1 rfl (lv_room (Nat.le_of_ble_eq_true rfl)) dX9_next_140 ⟨Nat.zero_le _, Nat.zero_le _⟩) hS (fun x278 u276 H locs w277 hG hS => ?_)
                obtain ⟨eu279, w277⟩ := w277
                rw [eu279] at hG
                refine ty_if_eq (tgt := 242) hx hb dX9_next_143 (by decide) (fun c280 => ?_) (fun c280 => ?_)
                · skip
                  refine lv_aload_n hx hb dX9_next_242 rfl (lv_at hl 1 rfl) ?_
                  refine lv_iload_n hx hb dX9_next_243 rfl (lv_at hl 0 rfl) ?_
                  refine ty_bipush hx hb (59) dX9_next_244 (by decide) (fun x281 h282 => ?_)
                  refine ty_icmp_ne (tgt := 253) hx hb dX9_next_246 (by decide) (fun c283 => ?_) (fun c283 => ?_)
                  · skip
                    refine ty_iconst hx hb (1) dX9_next_253 (by decide) (fun x284 h285 => ?_)
                    refine put_X9_17 hx hb hA hown hE hG hS hU t_h0 wd_4_147 dX9_next_254 (fun H locs hG hS => ?_)
                    generalize eg287 : (gs (gs (gs g1 116 0 x244.toInt) 115 0 x268.toInt) 117 0 x284.toInt) = g286 at hG
                    have hf288 : ∀ c j : Nat, c ≠ 116 → c ≠ 115 → c ≠ 117 → g286 c j = g1 c j := fun c j h116 h115 h117 => by rw [← eg287, gs_c _ _ _ _ h117, gs_c _ _ _ _ h115, gs_c _ _ _ _ h116]
                    have v289 : g286 116 0 = x244.toInt := by rw [← eg287, gs_c _ _ _ _ (by decide), gs_c _ _ _ _ (by decide), gs_self]
                    have v290 : g286 115 0 = x268.toInt := by rw [← eg287, gs_c _ _ _ _ (by decide), gs_self]
                    have v291 : g286 117 0 = x284.toInt := by rw [← eg287, gs_self]
                    exact W.vret hx hb hr (fun t ht hW => ⟨⟨g286, rfl, ⟨(fun c j h115 h116 h117 h118 => by rw [hf288 c j h116 h115 h117, hf2 c j h115]), (by omega)⟩, ok1 ht hG⟩, hS.F ht⟩) hS.2.2 dX9_next_257
                  · skip
                    refine ty_iconst hx hb (4) dX9_next_249 (by decide) (fun x292 h293 => ?_)
                    refine lv_goto (tgt := 254) hx hb dX9_next_250 (by decide) ?_
                    refine put_X9_17 hx hb hA hown hE hG hS hU t_h0 wd_4_147 dX9_next_254 (fun H locs hG hS => ?_)
                    generalize eg295 : (gs (gs (gs g1 116 0 x244.toInt) 115 0 x268.toInt) 117 0 x292.toInt) = g294 at hG
                    have hf296 : ∀ c j : Nat, c ≠ 116 → c ≠ 115 → c ≠ 117 → g294 c j = g1 c j := fun c j h116 h115 h117 => by rw [← eg295, gs_c _ _ _ _ h117, gs_c _ _ _ _ h115, gs_c _ _ _ _ h116]
                    have v297 : g294 116 0 = x244.toInt := by rw [← eg295, gs_c _ _ _ _ (by decide), gs_c _ _ _ _ (by decide), gs_self]
                    have v298 : g294 115 0 = x268.toInt := by rw [← eg295, gs_c _ _ _ _ (by decide), gs_self]
                    have v299 : g294 117 0 = x292.toInt := by rw [← eg295, gs_self]
                    exact W.vret hx hb hr (fun t ht hW => ⟨⟨g294, rfl, ⟨(fun c j h115 h116 h117 h118 => by rw [hf296 c j h116 h115 h117, hf2 c j h115]), (by omega)⟩, ok1 ht hG⟩, hS.F ht⟩) hS.2.2 dX9_next_257
                · skip
                  refine lv_aload_n hx hb dX9_next_146 rfl (lv_at hl 1 rfl) ?_
                  refine lv_iload_n hx hb dX9_next_147 rfl (lv_at hl 0 rfl) ?_
                  refine ty_bipush hx hb (48) dX9_next_148 (by decide) (fun x300 h301 => ?_)
                  refine ty_isub hx hb dX9_next_150 (fun x302 h303 => ?_)
                  refine put_X9_18 hx hb hA hown hE hG hS hU t_h0 wd_4_148 dX9_next_151 (fun H locs hG hS => ?_)
                  have e306 : (gs (gs (gs g1 116 0 x244.toInt) 115 0 x268.toInt) 118 0 x302.toInt) 114 0 = g1 114 0 := by simp [gs]
                  have e307 : (gs (gs (gs g1 116 0 x244.toInt) 115 0 x268.toInt) 118 0 x302.toInt) 115 0 = x268.toInt := by simp [gs]
                  have e308 : (gs (gs (gs g1 116 0 x244.toInt) 115 0 x268.toInt) 118 0 x302.toInt) 116 0 = x244.toInt := by simp [gs]
                  have L_154 : ∀ (n : Nat)  (g305 : gh) (H : Heap) (locs : List Loc) (ls : Array Slot), (g305 114 0 - g305 115 0 : Int) < n → 0 ≤ (gs (gs (gs g1 116 0 x244.toInt) 115 0 x268.toInt) 118 0 x302.toInt) 115 0 ∧ (gs (gs (gs g1 116 0 x244.toInt) 115 0 x268.toInt) 118 0 x302.toInt) 116 0 ≤ (gs (gs (gs g1 116 0 x244.toInt) 115 0 x268.toInt) 118 0 x302.toInt) 115 0 ∧ (gs (gs (gs g1 116 0 x244.toInt) 115 0 x268.toInt) 118 0 x302.toInt) 115 0 ≤ g305 115 0 ∧ g305 115 0 ≤ g305 114 0 → (∀ c j : Nat, c ≠ 115 → c ≠ 118 → g305 c j = (gs (gs (gs g1 116 0 x244.toInt) 115 0 x268.toInt) 118 0 x302.toInt) c j) → ty_ok (dC, dI) vwCl Γ (TP dA Γ g305) sz X H → va_S (ty_A sz) s.heap H locs → lv_has ls 2 [(1, .int x258), (0, .ref h0)] → W p l e (headSpec (.code yX9_next cX9_next 2 (Option.none : Option Jvm.ClassFile.FieldType) :: AL) ({ frames := 1, cells := 0, slots := 0, locals := 21 })).room s m ([.ref h0] : List Value).toArray below meth c H locs 0 0 (MQ below (va_Qv (fun (u : gh) => (∀ c j : Nat, c ≠ 115 → c ≠ 116 → c ≠ 117 → c ≠ 118 → u c j = g c j) ∧ ((0 ≤ u 116 0 ∧ u 116 0 ≤ u 115 0 ∧ u 115 0 ≤ g 114 0))) (okb dC dI dA sz X Γ) (ty_A sz)) ([.ref h0] : List Value).toArray s 0 0 (ty_A sz)) (F0 m 154 ls []) := by
                    intro n
                    induction n with
                    | zero => intro g305 H locs ls hm hi0 hf309 hG hS hl; exfalso; omega
                    | succ n ih_154 =>
                      intro g305 H locs ls hm hi0 hf309 hG hS hl
                      have hk310 : g305 114 0 = (gs (gs (gs g1 116 0 x244.toInt) 115 0 x268.toInt) 118 0 x302.toInt) 114 0 := hf309 114 0 (by decide) (by decide)
                      have hk310 : g305 114 0 = g1 114 0 := by rw [hk310]; simp [gs]
                      refine lv_aload_n hx hb dX9_next_154 rfl (lv_at hl 1 rfl) ?_
                      refine lv_aload_n hx hb dX9_next_155 rfl (lv_at hl 1 rfl) ?_
                      refine get_X9_15 hx hb hA hown hE hG t_h0 wd_4_145 dX9_next_156 (fun x311 h312 => ?_)
                      refine cI (va_runV (C := RX9) (As := [.int x311]) (rest := []) ⟨hx, hb, hml, hown, hA⟩ (k_X9_see l dC dI dA sz X Γ hU g305 h0 t_h0 x311   (by omega)) ⟨callB_of 1 hA (al_A wd_5_81) rfl rfl rfl (hA _ wd_1_7) (hA _ wd_5_78) (by decide +kernel) ⟨Nat.le_of_ble_eq_true rfl, Nat.le_of_ble_eq_true rfl⟩, hA _ wd_5_80, hA _ ws_40⟩ ⟨bl, recv_X9 hE hG t_h0, fun U hU9 hW9 => ⟨rfl, by rw [hU9]; exact hG, hE.go hS hU9 hW9⟩⟩ rfl rfl hl.1 rfl (lv_room (Nat.le_of_ble_eq_true rfl)) dX9_next_159 ⟨Nat.zero_le _, Nat.zero_le _⟩) hS (fun x316 u314 H locs w315 hG hS => ?_)
                      obtain ⟨eu317, w315⟩ := w315
                      rw [eu317] at hG
                      refine cI (va_runS (As := [.int x316]) (rest := []) ⟨hx, hb, hml, hown, hA⟩ (k_X9_isDigit l dC dI dA sz X Γ hU g305 x316   ) ⟨callB_of 1 hA (al_A wd_5_84) rfl rfl rfl (hA _ wd_1_7) (hA _ wd_5_82) (by decide +kernel) ⟨Nat.le_of_ble_eq_true rfl, Nat.le_of_ble_eq_true rfl⟩, hA _ wd_5_83⟩ ⟨bl, fun U hU9 hW9 => ⟨rfl, by rw [hU9]; exact hG, hE.go hS hU9 hW9⟩⟩ rfl rfl hl.1 rfl (lv_room (Nat.le_of_ble_eq_true rfl)) dX9_next_162 ⟨Nat.zero_le _, Nat.zero_le _⟩) hS (fun x320 u318 H locs w319 hG hS => ?_)
                      obtain ⟨eu321, w319⟩ := w319
                      rw [eu321] at hG
                      refine ty_if_eq (tgt := 217) hx hb dX9_next_165 (by decide) (fun c322 => ?_) (fun c322 => ?_)
                      · skip
                        refine lv_aload_n hx hb dX9_next_217 rfl (lv_at hl 1 rfl) ?_
                        refine lv_aload_n hx hb dX9_next_218 rfl (lv_at hl 1 rfl) ?_
                        refine get_X9_15 hx hb hA hown hE hG t_h0 wd_4_145 dX9_next_219 (fun x323 h324 => ?_)
                        refine lv_aload_n hx hb dX9_next_222 rfl (lv_at hl 1 rfl) ?_
                        refine get_X9_16 hx hb hA hown hE hG t_h0 wd_4_146 dX9_next_223 (fun x326 h327 => ?_)
                        have hk329 : g305 116 0 = (gs (gs (gs g1 116 0 x244.toInt) 115 0 x268.toInt) 118 0 x302.toInt) 116 0 := hf309 116 0 (by decide) (by decide)
                        have hk329 : g305 116 0 = x244.toInt := by rw [hk329]; simp [gs]
                        refine ty_isub hx hb dX9_next_226 (fun x330 h331 => ?_)
                        try have h332 : x330.toInt = x323.toInt - x326.toInt := ty_sub h331 (by omega) (by omega)
                        refine ty_iconst hx hb (4) dX9_next_227 (by decide) (fun x333 h334 => ?_)
                        refine ty_icmp_le (tgt := 235) hx hb dX9_next_228 (by decide) (fun c335 => ?_) (fun c335 => ?_)
                        · skip
                          refine ty_iconst hx hb (2) dX9_next_235 (by decide) (fun x336 h337 => ?_)
                          refine put_X9_17 hx hb hA hown hE hG hS hU t_h0 wd_4_147 dX9_next_236 (fun H locs hG hS => ?_)
                          refine lv_goto (tgt := 257) hx hb dX9_next_239 (by decide) ?_
                          have e338 : (gs g305 117 0 x336.toInt) 115 0 = g305 115 0 := by simp [gs]
                          have hk339 : g1 116 0 = g 116 0 := hf2 116 0 (by decide)
                          have e340 : (gs g305 117 0 x336.toInt) 116 0 = g305 116 0 := by simp [gs]
                          exact W.vret hx hb hr (fun t ht hW => ⟨⟨(gs g305 117 0 x336.toInt), rfl, ⟨(fun c j h115 h116 h117 h118 => by rw [gs_c _ _ _ _ h117, hf309 c j h115 h118, gs_c _ _ _ _ h118, gs_c _ _ _ _ h115, gs_c _ _ _ _ h116, hf2 c j h115]), (by omega)⟩, ok1 ht hG⟩, hS.F ht⟩) hS.2.2 dX9_next_257
                        · skip
                          refine ty_iconst hx hb (1) dX9_next_231 (by decide) (fun x341 h342 => ?_)
                          refine lv_goto (tgt := 236) hx hb dX9_next_232 (by decide) ?_
                          refine put_X9_17 hx hb hA hown hE hG hS hU t_h0 wd_4_147 dX9_next_236 (fun H locs hG hS => ?_)
                          refine lv_goto (tgt := 257) hx hb dX9_next_239 (by decide) ?_
                          have e343 : (gs g305 117 0 x341.toInt) 115 0 = g305 115 0 := by simp [gs]
                          have hk344 : g1 116 0 = g 116 0 := hf2 116 0 (by decide)
                          have e345 : (gs g305 117 0 x341.toInt) 116 0 = g305 116 0 := by simp [gs]
                          exact W.vret hx hb hr (fun t ht hW => ⟨⟨(gs g305 117 0 x341.toInt), rfl, ⟨(fun c j h115 h116 h117 h118 => by rw [gs_c _ _ _ _ h117, hf309 c j h115 h118, gs_c _ _ _ _ h118, gs_c _ _ _ _ h115, gs_c _ _ _ _ h116, hf2 c j h115]), (by omega)⟩, ok1 ht hG⟩, hS.F ht⟩) hS.2.2 dX9_next_257
                      · skip
                        refine lv_aload_n hx hb dX9_next_168 rfl (lv_at hl 1 rfl) ?_
                        refine get_X9_15 hx hb hA hown hE hG t_h0 wd_4_145 dX9_next_169 (fun x346 h347 => ?_)
                        refine lv_aload_n hx hb dX9_next_172 rfl (lv_at hl 1 rfl) ?_
                        refine get_X9_16 hx hb hA hown hE hG t_h0 wd_4_146 dX9_next_173 (fun x349 h350 => ?_)
                        have hk352 : g305 116 0 = (gs (gs (gs g1 116 0 x244.toInt) 115 0 x268.toInt) 118 0 x302.toInt) 116 0 := hf309 116 0 (by decide) (by decide)
                        have hk352 : g305 116 0 = x244.toInt := by rw [hk352]; simp [gs]
                        refine ty_isub hx hb dX9_next_176 (fun x353 h354 => ?_)
                        try have h355 : x353.toInt = x346.toInt - x349.toInt := ty_sub h354 (by omega) (by omega)
                        refine ty_iconst hx hb (4) dX9_next_177 (by decide) (fun x356 h357 => ?_)
                        refine ty_icmp_ge (tgt := 204) hx hb dX9_next_178 (by decide) (fun c358 => ?_) (fun c358 => ?_)
                        · skip
                          refine lv_aload_n hx hb dX9_next_204 rfl (lv_at hl 1 rfl) ?_
                          refine lv_dup hx hb dX9_next_205 rfl ?_
                          refine get_X9_15 hx hb hA hown hE hG t_h0 wd_4_145 dX9_next_206 (fun x359 h360 => ?_)
                          refine ty_iconst hx hb (1) dX9_next_209 (by decide) (fun x362 h363 => ?_)
                          refine ty_iadd hx hb dX9_next_210 (fun x364 h365 => ?_)
                          try have h366 : x364.toInt = x359.toInt + x362.toInt := ty_add h365 (by omega) (by omega)
                          refine put_X9_15 hx hb hA hown hE hG hS hU t_h0 wd_4_145 dX9_next_211 (fun H locs hG hS => ?_)
                          refine lv_goto (tgt := 154) hx hb dX9_next_214 (by decide) ?_
                          have e367 : (gs g305 115 0 x364.toInt) 114 0 = g305 114 0 := by simp [gs]
                          have e368 : (gs g305 115 0 x364.toInt) 115 0 = x364.toInt := by simp [gs]
                          exact ih_154 (gs g305 115 0 x364.toInt) _ _ ls (by omega) (by omega) (fun c j h115 h118 => by rw [gs_c _ _ _ _ h115, hf309 c j h115 h118]) hG hS (lv_sub hl [0, 1] rfl)
                        · skip
                          refine lv_aload_n hx hb dX9_next_181 rfl (lv_at hl 1 rfl) ?_
                          refine ty_bipush hx hb (10) dX9_next_182 (by decide) (fun x369 h370 => ?_)
                          refine lv_aload_n hx hb dX9_next_184 rfl (lv_at hl 1 rfl) ?_
                          refine get_X9_18 hx hb hA hown hE hG t_h0 wd_4_148 dX9_next_185 (fun x371 h372 => ?_)
                          refine ty_imul hx hb dX9_next_188 (fun x374 h375 => ?_)
                          try have h376 : x374.toInt = 10 * x371.toInt := ty_mull h375 (by omega) (by omega) (by omega)
                          refine lv_aload_n hx hb dX9_next_189 rfl (lv_at hl 1 rfl) ?_
                          refine lv_aload_n hx hb dX9_next_190 rfl (lv_at hl 1 rfl) ?_
                          refine get_X9_15 hx hb hA hown hE hG t_h0 wd_4_145 dX9_next_191 (fun x377 h378 => ?_)
                          refine cI (va_runV (C := RX9) (As := [.int x377]) (rest := [.int x374, .ref h0]) ⟨hx, hb, hml, hown, hA⟩ (k_X9_see l dC dI dA sz X Γ hU g305 h0 t_h0 x377   (by omega)) ⟨callB_of 1 hA (al_A wd_5_81) rfl rfl rfl (hA _ wd_1_7) (hA _ wd_5_78) (by decide +kernel) ⟨Nat.le_of_ble_eq_true rfl, Nat.le_of_ble_eq_true rfl⟩, hA _ wd_5_80, hA _ ws_40⟩ ⟨bl, recv_X9 hE hG t_h0, fun U hU9 hW9 => ⟨rfl, by rw [hU9]; exact hG, hE.go hS hU9 hW9⟩⟩ rfl rfl hl.1 rfl (lv_room (Nat.le_of_ble_eq_true rfl)) dX9_next_194 ⟨Nat.zero_le _, Nat.zero_le _⟩) hS (fun x382 u380 H locs w381 hG hS => ?_)
                          obtain ⟨eu383, w381⟩ := w381
                          rw [eu383] at hG
                          refine ty_iadd hx hb dX9_next_197 (fun x384 h385 => ?_)
                          try have h386 : x384.toInt = x374.toInt + x382.toInt := ty_add h385 (by omega) (by omega)
                          refine ty_bipush hx hb (48) dX9_next_198 (by decide) (fun x387 h388 => ?_)
                          refine ty_isub hx hb dX9_next_200 (fun x389 h390 => ?_)
                          try have h391 : x389.toInt = x384.toInt - x387.toInt := ty_sub h390 (by omega) (by omega)
                          refine put_X9_18 hx hb hA hown hE hG hS hU t_h0 wd_4_148 dX9_next_201 (fun H locs hG hS => ?_)
                          refine lv_aload_n hx hb dX9_next_204 rfl (lv_at hl 1 rfl) ?_
                          refine lv_dup hx hb dX9_next_205 rfl ?_
                          refine get_X9_15 hx hb hA hown hE hG t_h0 wd_4_145 dX9_next_206 (fun x392 h393 => ?_)
                          replace h393 : x392.toInt = g305 115 0 := by rw [h393]; simp [gs]
                          refine ty_iconst hx hb (1) dX9_next_209 (by decide) (fun x395 h396 => ?_)
                          refine ty_iadd hx hb dX9_next_210 (fun x397 h398 => ?_)
                          try have h399 : x397.toInt = x392.toInt + x395.toInt := ty_add h398 (by omega) (by omega)
                          refine put_X9_15 hx hb hA hown hE hG hS hU t_h0 wd_4_145 dX9_next_211 (fun H locs hG hS => ?_)
                          refine lv_goto (tgt := 154) hx hb dX9_next_214 (by decide) ?_
                          have e400 : (gs (gs g305 118 0 x389.toInt) 115 0 x397.toInt) 114 0 = g305 114 0 := by simp [gs]
                          have e401 : (gs (gs g305 118 0 x389.toInt) 115 0 x397.toInt) 115 0 = x397.toInt := by simp [gs]
                          exact ih_154 (gs (gs g305 118 0 x389.toInt) 115 0 x397.toInt) _ _ ls (by omega) (by omega) (fun c j h115 h118 => by rw [gs_c _ _ _ _ h115, gs_c _ _ _ _ h118, hf309 c j h115 h118]) hG hS (lv_sub hl [0, 1] rfl)
                  have e402 : (gs (gs (gs g1 116 0 x244.toInt) 115 0 x268.toInt) 118 0 x302.toInt) 114 0 = g1 114 0 := by simp [gs]
                  have e403 : (gs (gs (gs g1 116 0 x244.toInt) 115 0 x268.toInt) 118 0 x302.toInt) 115 0 = x268.toInt := by simp [gs]
                  exact L_154 (((gs (gs (gs g1 116 0 x244.toInt) 115 0 x268.toInt) 118 0 x302.toInt) 114 0 - (gs (gs (gs g1 116 0 x244.toInt) 115 0 x268.toInt) 118 0 x302.toInt) 115 0) + 1).toNat (gs (gs (gs g1 116 0 x244.toInt) 115 0 x268.toInt) 118 0 x302.toInt) _ _ ls (by omega) (by omega) (fun c j _ _ => rfl) hG hS (lv_sub hl [0, 1] rfl)
              · skip
                have e405 : (gs (gs g1 116 0 x244.toInt) 115 0 x268.toInt) 114 0 = g1 114 0 := by simp [gs]
                have e406 : (gs (gs g1 116 0 x244.toInt) 115 0 x268.toInt) 115 0 = x268.toInt := by simp [gs]
                have e407 : (gs (gs g1 116 0 x244.toInt) 115 0 x268.toInt) 116 0 = x244.toInt := by simp [gs]
                have L_104 : ∀ (n : Nat)  (g404 : gh) (H : Heap) (locs : List Loc) (ls : Array Slot), (g404 114 0 - g404 115 0 : Int) < n → 0 ≤ (gs (gs g1 116 0 x244.toInt) 115 0 x268.toInt) 115 0 ∧ (gs (gs g1 116 0 x244.toInt) 115 0 x268.toInt) 116 0 ≤ (gs (gs g1 116 0 x244.toInt) 115 0 x268.toInt) 115 0 ∧ (gs (gs g1 116 0 x244.toInt) 115 0 x268.toInt) 115 0 ≤ g404 115 0 ∧ g404 115 0 ≤ g404 114 0 → (∀ c j : Nat, c ≠ 115 → g404 c j = (gs (gs g1 116 0 x244.toInt) 115 0 x268.toInt) c j) → ty_ok (dC, dI) vwCl Γ (TP dA Γ g404) sz X H → va_S (ty_A sz) s.heap H locs → lv_has ls 2 [(1, .int x258), (0, .ref h0)] → W p l e (headSpec (.code yX9_next cX9_next 2 (Option.none : Option Jvm.ClassFile.FieldType) :: AL) ({ frames := 1, cells := 0, slots := 0, locals := 21 })).room s m ([.ref h0] : List Value).toArray below meth c H locs 0 0 (MQ below (va_Qv (fun (u : gh) => (∀ c j : Nat, c ≠ 115 → c ≠ 116 → c ≠ 117 → c ≠ 118 → u c j = g c j) ∧ ((0 ≤ u 116 0 ∧ u 116 0 ≤ u 115 0 ∧ u 115 0 ≤ g 114 0))) (okb dC dI dA sz X Γ) (ty_A sz)) ([.ref h0] : List Value).toArray s 0 0 (ty_A sz)) (F0 m 104 ls []) := by
                  intro n
                  induction n with
                  | zero => intro g404 H locs ls hm hi0 hf408 hG hS hl; exfalso; omega
                  | succ n ih_104 =>
                    intro g404 H locs ls hm hi0 hf408 hG hS hl
                    have hk409 : g404 114 0 = (gs (gs g1 116 0 x244.toInt) 115 0 x268.toInt) 114 0 := hf408 114 0 (by decide)
                    have hk409 : g404 114 0 = g1 114 0 := by rw [hk409]; simp [gs]
                    refine lv_aload_n hx hb dX9_next_104 rfl (lv_at hl 1 rfl) ?_
                    refine lv_aload_n hx hb dX9_next_105 rfl (lv_at hl 1 rfl) ?_
                    refine get_X9_15 hx hb hA hown hE hG t_h0 wd_4_145 dX9_next_106 (fun x410 h411 => ?_)
                    refine cI (va_runV (C := RX9) (As := [.int x410]) (rest := []) ⟨hx, hb, hml, hown, hA⟩ (k_X9_see l dC dI dA sz X Γ hU g404 h0 t_h0 x410   (by omega)) ⟨callB_of 1 hA (al_A wd_5_81) rfl rfl rfl (hA _ wd_1_7) (hA _ wd_5_78) (by decide +kernel) ⟨Nat.le_of_ble_eq_true rfl, Nat.le_of_ble_eq_true rfl⟩, hA _ wd_5_80, hA _ ws_40⟩ ⟨bl, recv_X9 hE hG t_h0, fun U hU9 hW9 => ⟨rfl, by rw [hU9]; exact hG, hE.go hS hU9 hW9⟩⟩ rfl rfl hl.1 rfl (lv_room (Nat.le_of_ble_eq_true rfl)) dX9_next_109 ⟨Nat.zero_le _, Nat.zero_le _⟩) hS (fun x415 u413 H locs w414 hG hS => ?_)
                    obtain ⟨eu416, w414⟩ := w414
                    rw [eu416] at hG
                    refine cI (va_runS (As := [.int x415]) (rest := []) ⟨hx, hb, hml, hown, hA⟩ (k_X9_isSmall l dC dI dA sz X Γ hU g404 x415   ) ⟨callB_of 1 hA (al_A wd_5_77) rfl rfl rfl (hA _ wd_1_7) (hA _ wd_5_75) (by decide +kernel) ⟨Nat.le_of_ble_eq_true rfl, Nat.le_of_ble_eq_true rfl⟩, hA _ wd_5_76⟩ ⟨bl, fun U hU9 hW9 => ⟨rfl, by rw [hU9]; exact hG, hE.go hS hU9 hW9⟩⟩ rfl rfl hl.1 rfl (lv_room (Nat.le_of_ble_eq_true rfl)) dX9_next_112 ⟨Nat.zero_le _, Nat.zero_le _⟩) hS (fun x419 u417 H locs w418 hG hS => ?_)
                    obtain ⟨eu420, w418⟩ := w418
                    rw [eu420] at hG
                    refine ty_if_eq (tgt := 131) hx hb dX9_next_115 (by decide) (fun c421 => ?_) (fun c421 => ?_)
                    · skip
                      refine lv_aload_n hx hb dX9_next_131 rfl (lv_at hl 1 rfl) ?_
                      refine ty_iconst hx hb (3) dX9_next_132 (by decide) (fun x422 h423 => ?_)
                      refine put_X9_17 hx hb hA hown hE hG hS hU t_h0 wd_4_147 dX9_next_133 (fun H locs hG hS => ?_)
                      refine lv_goto (tgt := 257) hx hb dX9_next_136 (by decide) ?_
                      have e424 : (gs g404 117 0 x422.toInt) 115 0 = g404 115 0 := by simp [gs]
                      have hk425 : g404 116 0 = (gs (gs g1 116 0 x244.toInt) 115 0 x268.toInt) 116 0 := hf408 116 0 (by decide)
                      have hk425 : g404 116 0 = x244.toInt := by rw [hk425]; simp [gs]
                      have e426 : (gs g404 117 0 x422.toInt) 116 0 = g404 116 0 := by simp [gs]
                      exact W.vret hx hb hr (fun t ht hW => ⟨⟨(gs g404 117 0 x422.toInt), rfl, ⟨(fun c j h115 h116 h117 h118 => by rw [gs_c _ _ _ _ h117, hf408 c j h115, gs_c _ _ _ _ h115, gs_c _ _ _ _ h116, hf2 c j h115]), (by omega)⟩, ok1 ht hG⟩, hS.F ht⟩) hS.2.2 dX9_next_257
                    · skip
                      refine lv_aload_n hx hb dX9_next_118 rfl (lv_at hl 1 rfl) ?_
                      refine lv_dup hx hb dX9_next_119 rfl ?_
                      refine get_X9_15 hx hb hA hown hE hG t_h0 wd_4_145 dX9_next_120 (fun x427 h428 => ?_)
                      refine ty_iconst hx hb (1) dX9_next_123 (by decide) (fun x430 h431 => ?_)
                      refine ty_iadd hx hb dX9_next_124 (fun x432 h433 => ?_)
                      try have h434 : x432.toInt = x427.toInt + x430.toInt := ty_add h433 (by omega) (by omega)
                      refine put_X9_15 hx hb hA hown hE hG hS hU t_h0 wd_4_145 dX9_next_125 (fun H locs hG hS => ?_)
                      refine lv_goto (tgt := 104) hx hb dX9_next_128 (by decide) ?_
                      have e435 : (gs g404 115 0 x432.toInt) 114 0 = g404 114 0 := by simp [gs]
                      have e436 : (gs g404 115 0 x432.toInt) 115 0 = x432.toInt := by simp [gs]
                      exact ih_104 (gs g404 115 0 x432.toInt) _ _ ls (by omega) (by omega) (fun c j h115 => by rw [gs_c _ _ _ _ h115, hf408 c j h115]) hG hS (lv_sub hl [0, 1] rfl)
                have e437 : (gs (gs g1 116 0 x244.toInt) 115 0 x268.toInt) 114 0 = g1 114 0 := by simp [gs]
                have e438 : (gs (gs g1 116 0 x244.toInt) 115 0 x268.toInt) 115 0 = x268.toInt := by simp [gs]
                exact L_104 (((gs (gs g1 116 0 x244.toInt) 115 0 x268.toInt) 114 0 - (gs (gs g1 116 0 x244.toInt) 115 0 x268.toInt) 115 0) + 1).toNat (gs (gs g1 116 0 x244.toInt) 115 0 x268.toInt) _ _ ls (by omega) (by omega) (fun c j _ => rfl) hG hS (lv_sub hl [0, 1] rfl)
            · skip
              refine lv_aload_n hx hb dX9_next_71 rfl (lv_at hl 0 rfl) ?_
              refine ty_iconst hx hb (0) dX9_next_72 (by decide) (fun x439 h440 => ?_)
              refine put_X9_17 hx hb hA hown hE hG hS hU t_h0 wd_4_147 dX9_next_73 (fun H locs hG hS => ?_)
              have e441 : (gs (gs g1 116 0 x244.toInt) 117 0 x439.toInt) 115 0 = g1 115 0 := by simp [gs]
              have e442 : (gs (gs g1 116 0 x244.toInt) 117 0 x439.toInt) 116 0 = x244.toInt := by simp [gs]
              exact W.vret hx hb hr (fun t ht hW => ⟨⟨(gs (gs g1 116 0 x244.toInt) 117 0 x439.toInt), rfl, ⟨(fun c j h115 h116 h117 h118 => by rw [gs_c _ _ _ _ h117, gs_c _ _ _ _ h116, hf2 c j h115]), (by omega)⟩, ok1 ht hG⟩, hS.F ht⟩) hS.2.2 dX9_next_76
          · skip
            refine lv_aload_n hx hb dX9_next_39 rfl (lv_at hl 0 rfl) ?_
            refine lv_dup hx hb dX9_next_40 rfl ?_
            refine get_X9_15 hx hb hA hown hE hG t_h0 wd_4_145 dX9_next_41 (fun x443 h444 => ?_)
            refine ty_iconst hx hb (1) dX9_next_44 (by decide) (fun x446 h447 => ?_)
            refine ty_iadd hx hb dX9_next_45 (fun x448 h449 => ?_)
            try have h450 : x448.toInt = x443.toInt + x446.toInt := ty_add h449 (by omega) (by omega)
            refine put_X9_15 hx hb hA hown hE hG hS hU t_h0 wd_4_145 dX9_next_46 (fun H locs hG hS => ?_)
            refine lv_goto (tgt := 0) hx hb dX9_next_49 (by decide) ?_
            have e451 : (gs g1 115 0 x448.toInt) 114 0 = g1 114 0 := by simp [gs]
            have e452 : (gs g1 115 0 x448.toInt) 115 0 = x448.toInt := by simp [gs]
            exact ih_0 (gs g1 115 0 x448.toInt) _ _ ls (by omega) (by omega) (fun c j h115 => by rw [gs_c _ _ _ _ h115, hf2 c j h115]) hG hS (lv_sub hl [0] rfl)
  exact L_0 ((g 114 0 - g 115 0) + 1).toNat g _ _ ls (by omega) (by omega) (fun c j _ => rfl) hG hS (lv_sub hl [0] rfl)

set_option maxHeartbeats 4000000 in
set_option maxRecDepth 100000 in
/-- WeekBankModel.isWord:  -/
theorem k_X9_isWord (l : Launch) (dC : Nat → ClassId) (dI : Nat → Nat → Nat) (dA : Nat → ClassId) (sz : Nat) (X : va_W) (Γ : ty_G) (hU : Un Γ) (g : gh) (h0 : Nat) (t_h0 : ty Γ h0 30) (kk : Nat) (hkk : kk < 12) (hp : 0 ≤ g 116 0 ∧ g 116 0 ≤ g 115 0 ∧ g 115 0 ≤ g 114 0 ∧ g 114 0 ≤ 300) : Met l yX9_isWord (.code yX9_isWord cX9_isWord 3 (Option.some Jvm.ClassFile.FieldType.boolean) :: AL) ({ frames := 4, cells := 0, slots := 0, locals := 85 }) (PCx dC dI dA sz X Γ g [.ref h0, .ref (dI 100 kk)]) (va_Qi (fun (r : Int32) (u : gh) => u = g ∧ ((r.toInt = 0 ∨ r.toInt = 1))) (okb dC dI dA sz X Γ) (ty_A sz)) 0 0 (ty_A sz) := by
  refine Met.ofW (cc := cX9_isWord) (maxL := 3) (ret := (Option.some Jvm.ClassFile.FieldType.boolean)) (by decide) rfl ?_
  intro p e s m args below meth c s₁ B hml hv
  obtain ⟨rfl, hG, hE⟩ := hv
  have hx := B.exec
  have hb := B.bytes
  have hr := B.returns
  have hts := atoms_spec B.pre
  have hA : ∀ w ∈ AL, w.before _ s = true := fun w h => hts w (List.mem_cons_of_mem _ h)
  have hown : s.vm.findClass RX9 = some m.cls := findClass_of_methodNamed B.named
  have hlocks := B.notSynchronized
  have hS : va_S (ty_A sz) s.heap s.heap [] := va_S.rf
  have hES := hE.2.1.2.2.2.2.2.2
  have hl := lv_entry ([.ref h0, .ref (dI 100 kk)]) (n := 3) (Nat.le_of_ble_eq_true rfl)
  rw [lg_entry_eq]
  generalize (lg_sl ([.ref h0, .ref (dI 100 kk)]) ++ List.replicate (3 - (lg_sl ([.ref h0, .ref (dI 100 kk)])).length) Slot.unset).toArray = ls at hl ⊢
  have hl : lv_has ls 3 [(0, .ref h0), (1, .ref (dI 100 kk))] := hl
  refine lv_aload_n hx hb dX9_isWord_0 rfl (lv_at hl 0 rfl) ?_
  refine get_X9_17 hx hb hA hown hE hG t_h0 wd_4_147 dX9_isWord_1 (fun x1 h2 => ?_)
  refine ty_iconst hx hb (3) dX9_isWord_4 (by decide) (fun x4 h5 => ?_)
  refine ty_icmp_ne (tgt := 24) hx hb dX9_isWord_5 (by decide) (fun c6 => ?_) (fun c6 => ?_)
  · skip
    refine ty_iconst hx hb (0) dX9_isWord_24 (by decide) (fun x7 h8 => ?_)
    exact W.zret (v := x7) hx hb hr (ty_nb (by omega)).1 (fun t ht hW => ⟨⟨x7, g, rfl, ⟨rfl, (by omega)⟩, ok1 ht hG⟩, hS.F ht⟩) hS.2.2 dX9_isWord_25
  · skip
    refine lv_aload_n hx hb dX9_isWord_8 rfl (lv_at hl 0 rfl) ?_
    refine get_X9_15 hx hb hA hown hE hG t_h0 wd_4_145 dX9_isWord_9 (fun x9 h10 => ?_)
    refine lv_aload_n hx hb dX9_isWord_12 rfl (lv_at hl 0 rfl) ?_
    refine get_X9_16 hx hb hA hown hE hG t_h0 wd_4_146 dX9_isWord_13 (fun x12 h13 => ?_)
    refine ty_isub hx hb dX9_isWord_16 (fun x15 h16 => ?_)
    try have h17 : x15.toInt = x9.toInt - x12.toInt := ty_sub h16 (by omega) (by omega)
    refine lv_aload_n hx hb dX9_isWord_17 rfl (lv_at hl 1 rfl) ?_
    refine cI (va_runV (C := RJ0) (As := []) (rest := [.int x15]) ⟨hx, hb, hml, hown, hA⟩ (k_J0_length_8abf5 l dC dI dA sz X Γ hU g kk hkk   ) ⟨callB_of 0 hA (al_A wd_2_134) rfl rfl rfl (hA _ wd_1_10) (hA _ wd_5_94) (by decide +kernel) ⟨Nat.le_of_ble_eq_true rfl, Nat.le_of_ble_eq_true rfl⟩, hA _ wd_2_132, hA _ wd_2_133⟩ ⟨bl, str_recv hES hS hkk, fun U hU9 hW9 => ⟨rfl, by rw [hU9]; exact hG, hE.go hS hU9 hW9⟩⟩ rfl rfl hl.1 rfl (lv_room (Nat.le_of_ble_eq_true rfl)) dX9_isWord_18 ⟨Nat.zero_le _, Nat.zero_le _⟩) hS (fun x20 u18 H locs w19 hG hS => ?_)
    obtain ⟨eu21, w19⟩ := w19
    rw [eu21] at hG
    refine ty_icmp_eq (tgt := 26) hx hb dX9_isWord_21 (by decide) (fun c22 => ?_) (fun c22 => ?_)
    · skip
      refine ty_iconst hx hb (0) dX9_isWord_26 (by decide) (fun x23 h24 => ?_)
      refine lv_istore_n (lv' := [(2, .int x23), (0, .ref h0), (1, .ref (dI 100 kk))]) hx hb dX9_isWord_27 rfl hl (by decide) rfl (fun ls hl => ?_)
      have L_28 : ∀ (n : Nat) (v2_28 : Int32) (H : Heap) (locs : List Loc) (ls : Array Slot), (((sB kk).length : Int) - v2_28.toInt : Int) < n → 0 ≤ v2_28.toInt ∧ v2_28.toInt ≤ ((sB kk).length : Int) → ty_ok (dC, dI) vwCl Γ (TP dA Γ g) sz X H → va_S (ty_A sz) s.heap H locs → lv_has ls 3 [(2, .int v2_28), (0, .ref h0), (1, .ref (dI 100 kk))] → W p l e (headSpec (.code yX9_isWord cX9_isWord 3 (Option.some Jvm.ClassFile.FieldType.boolean) :: AL) ({ frames := 4, cells := 0, slots := 0, locals := 85 })).room s m ([.ref h0, .ref (dI 100 kk)] : List Value).toArray below meth c H locs 0 0 (MQ below (va_Qi (fun (r : Int32) (u : gh) => u = g ∧ ((r.toInt = 0 ∨ r.toInt = 1))) (okb dC dI dA sz X Γ) (ty_A sz)) ([.ref h0, .ref (dI 100 kk)] : List Value).toArray s 0 0 (ty_A sz)) (F0 m 28 ls []) := by
        intro n
        induction n with
        | zero => intro v2_28 H locs ls hm hi0 hG hS hl; exfalso; omega
        | succ n ih_28 =>
          intro v2_28 H locs ls hm hi0 hG hS hl
          refine lv_iload_n hx hb dX9_isWord_28 rfl (lv_at hl 0 rfl) ?_
          refine lv_aload_n hx hb dX9_isWord_29 rfl (lv_at hl 2 rfl) ?_
          refine cI (va_runV (C := RJ0) (As := []) (rest := [.int v2_28]) ⟨hx, hb, hml, hown, hA⟩ (k_J0_length_8abf5 l dC dI dA sz X Γ hU g kk hkk   ) ⟨callB_of 0 hA (al_A wd_2_134) rfl rfl rfl (hA _ wd_1_10) (hA _ wd_5_94) (by decide +kernel) ⟨Nat.le_of_ble_eq_true rfl, Nat.le_of_ble_eq_true rfl⟩, hA _ wd_2_132, hA _ wd_2_133⟩ ⟨bl, str_recv hES hS hkk, fun U hU9 hW9 => ⟨rfl, by rw [hU9]; exact hG, hE.go hS hU9 hW9⟩⟩ rfl rfl hl.1 rfl (lv_room (Nat.le_of_ble_eq_true rfl)) dX9_isWord_30 ⟨Nat.zero_le _, Nat.zero_le _⟩) hS (fun x28 u26 H locs w27 hG hS => ?_)
          obtain ⟨eu29, w27⟩ := w27
          rw [eu29] at hG
          refine ty_icmp_ge (tgt := 63) hx hb dX9_isWord_33 (by decide) (fun c30 => ?_) (fun c30 => ?_)
          · skip
            refine ty_iconst hx hb (1) dX9_isWord_63 (by decide) (fun x31 h32 => ?_)
            exact W.zret (v := x31) hx hb hr (ty_nb (by omega)).1 (fun t ht hW => ⟨⟨x31, g, rfl, ⟨rfl, (by omega)⟩, ok1 ht hG⟩, hS.F ht⟩) hS.2.2 dX9_isWord_64
          · skip
            refine lv_aload_n hx hb dX9_isWord_36 rfl (lv_at hl 1 rfl) ?_
            refine get_X9_13 hx hb hA hown hE hG t_h0 wd_4_143 dX9_isWord_37 (fun b33 (t_b33 : ty Γ b33 113) => ?_)
            refine lv_aload_n hx hb dX9_isWord_40 rfl (lv_at hl 1 rfl) ?_
            refine get_X9_16 hx hb hA hown hE hG t_h0 wd_4_146 dX9_isWord_41 (fun x34 h35 => ?_)
            refine lv_iload_n hx hb dX9_isWord_44 rfl (lv_at hl 0 rfl) ?_
            refine ty_iadd hx hb dX9_isWord_45 (fun x37 h38 => ?_)
            try have h39 : x37.toInt = x34.toInt + v2_28.toInt := ty_add h38 (by omega) (by omega)
            refine ald_mB hx hb hE hG 13 rfl (n := 300) rfl (lo := -2147483648) (hi := 2147483647) rfl rfl t_b33 (by omega) dX9_isWord_46 (fun j41 x40 h42 h43 h44 => ?_)
            clear h44
            refine lv_aload_n hx hb dX9_isWord_47 rfl (lv_at hl 2 rfl) ?_
            refine lv_iload_n hx hb dX9_isWord_48 rfl (lv_at hl 0 rfl) ?_
            refine cI (va_runV (C := RJ0) (As := [.int v2_28]) (rest := [.int x40]) ⟨hx, hb, hml, hown, hA⟩ (k_J0_charAt_5068e l dC dI dA sz X Γ hU g kk hkk v2_28   (by omega)) ⟨callB_of 1 hA (al_A wd_2_144) rfl rfl rfl (hA _ wd_1_10) (hA _ wd_5_95) (by decide +kernel) ⟨Nat.le_of_ble_eq_true rfl, Nat.le_of_ble_eq_true rfl⟩, hA _ wd_2_142, hA _ wd_2_143⟩ ⟨bl, str_recv hES hS hkk, fun U hU9 hW9 => ⟨rfl, by rw [hU9]; exact hG, hE.go hS hU9 hW9⟩⟩ rfl rfl hl.1 rfl (lv_room (Nat.le_of_ble_eq_true rfl)) dX9_isWord_49 ⟨Nat.zero_le _, Nat.zero_le _⟩) hS (fun x47 u45 H locs w46 hG hS => ?_)
            obtain ⟨eu48, w46⟩ := w46
            rw [eu48] at hG
            refine ty_icmp_eq (tgt := 57) hx hb dX9_isWord_52 (by decide) (fun c49 => ?_) (fun c49 => ?_)
            · skip
              obtain ⟨x50, h51⟩ : ∃ y : Int32, y = v2_28 + Int32.ofInt (1) := ⟨_, rfl⟩
              try have h52 : x50.toInt = v2_28.toInt + (1) := ty_inc h51 (by decide) (by omega) (by omega)
              refine lv_iinc (v := x50) (lv' := [(2, .int x50), (0, .ref h0), (1, .ref (dI 100 kk))]) hx hb dX9_isWord_57 hl (k := 0) rfl h51.symm (by decide) rfl (fun ls hl => ?_)
              refine lv_goto (tgt := 28) hx hb dX9_isWord_60 (by decide) ?_
              exact ih_28 x50 _ _ ls (by omega) (by omega) hG hS (lv_sub hl [0, 1, 2] rfl)
            · skip
              refine ty_iconst hx hb (0) dX9_isWord_55 (by decide) (fun x53 h54 => ?_)
              exact W.zret (v := x53) hx hb hr (ty_nb (by omega)).1 (fun t ht hW => ⟨⟨x53, g, rfl, ⟨rfl, (by omega)⟩, ok1 ht hG⟩, hS.F ht⟩) hS.2.2 dX9_isWord_56
      exact L_28 ((((sB kk).length : Int) - x23.toInt) + 1).toNat x23 _ _ ls (by omega) (by omega) hG hS (lv_sub hl [0, 1, 2] rfl)
    · skip
      refine ty_iconst hx hb (0) dX9_isWord_24 (by decide) (fun x55 h56 => ?_)
      exact W.zret (v := x55) hx hb hr (ty_nb (by omega)).1 (fun t ht hW => ⟨⟨x55, g, rfl, ⟨rfl, (by omega)⟩, ok1 ht hG⟩, hS.F ht⟩) hS.2.2 dX9_isWord_25

set_option maxHeartbeats 4000000 in
set_option maxRecDepth 100000 in
/-- WeekBankModel.fails:  -/
theorem k_X9_fails (l : Launch) (dC : Nat → ClassId) (dI : Nat → Nat → Nat) (dA : Nat → ClassId) (sz : Nat) (X : va_W) (Γ : ty_G) (hU : Un Γ) (g : gh) (h0 : Nat) (t_h0 : ty Γ h0 30) (p1 : Int32) : Met l yX9_fails (.code yX9_fails cX9_fails 2 (Option.none : Option Jvm.ClassFile.FieldType) :: AL) ({ frames := 0, cells := 0, slots := 0, locals := 0 }) (PCx dC dI dA sz X Γ g [.ref h0, .int p1]) (va_Qv (fun (u : gh) => (∀ c j : Nat, c ≠ 119 → c ≠ 120 → u c j = g c j) ∧ ((g 119 0 ≠ 0 → u 119 0 = g 119 0) ∧ (g 119 0 = 0 → u 119 0 = p1.toInt))) (okb dC dI dA sz X Γ) (ty_A sz)) 0 0 (ty_A sz) := by
  refine Met.ofW (cc := cX9_fails) (maxL := 2) (ret := (Option.none : Option Jvm.ClassFile.FieldType)) (by decide) rfl ?_
  intro p e s m args below meth c s₁ B hml hv
  obtain ⟨rfl, hG, hE⟩ := hv
  have hx := B.exec
  have hb := B.bytes
  have hr := B.returns
  have hts := atoms_spec B.pre
  have hA : ∀ w ∈ AL, w.before _ s = true := fun w h => hts w (List.mem_cons_of_mem _ h)
  have hown : s.vm.findClass RX9 = some m.cls := findClass_of_methodNamed B.named
  have hlocks := B.notSynchronized
  have hS : va_S (ty_A sz) s.heap s.heap [] := va_S.rf
  have hl := lv_entry ([.ref h0, .int p1]) (n := 2) (Nat.le_of_ble_eq_true rfl)
  rw [lg_entry_eq]
  generalize (lg_sl ([.ref h0, .int p1]) ++ List.replicate (2 - (lg_sl ([.ref h0, .int p1])).length) Slot.unset).toArray = ls at hl ⊢
  have hl : lv_has ls 2 [(0, .ref h0), (1, .int p1)] := hl
  refine lv_aload_n hx hb dX9_fails_0 rfl (lv_at hl 0 rfl) ?_
  refine get_X9_19 hx hb hA hown hE hG t_h0 wd_4_149 dX9_fails_1 (fun x1 h2 => ?_)
  refine ty_if_eq (tgt := 8) hx hb dX9_fails_4 (by decide) (fun c4 => ?_) (fun c4 => ?_)
  · skip
    refine lv_aload_n hx hb dX9_fails_8 rfl (lv_at hl 0 rfl) ?_
    refine lv_iload_n hx hb dX9_fails_9 rfl (lv_at hl 1 rfl) ?_
    refine put_X9_19 hx hb hA hown hE hG hS hU t_h0 wd_4_149 dX9_fails_10 (fun H locs hG hS => ?_)
    refine lv_aload_n hx hb dX9_fails_13 rfl (lv_at hl 0 rfl) ?_
    refine lv_aload_n hx hb dX9_fails_14 rfl (lv_at hl 0 rfl) ?_
    refine get_X9_16 hx hb hA hown hE hG t_h0 wd_4_146 dX9_fails_15 (fun x5 h6 => ?_)
    replace h6 : x5.toInt = g 116 0 := by rw [h6]; simp [gs]
    refine put_X9_20 hx hb hA hown hE hG hS hU t_h0 wd_4_150 dX9_fails_18 (fun H locs hG hS => ?_)
    have e8 : (gs (gs g 119 0 p1.toInt) 120 0 x5.toInt) 119 0 = p1.toInt := by simp [gs]
    exact W.vret hx hb hr (fun t ht hW => ⟨⟨(gs (gs g 119 0 p1.toInt) 120 0 x5.toInt), rfl, ⟨(fun c j h119 h120 => by rw [gs_c _ _ _ _ h120, gs_c _ _ _ _ h119]), (by omega)⟩, ok1 ht hG⟩, hS.F ht⟩) hS.2.2 dX9_fails_21
  · skip
    exact W.vret hx hb hr (fun t ht hW => ⟨⟨g, rfl, ⟨(fun c j h119 h120 => by rfl), (by omega)⟩, ok1 ht hG⟩, hS.F ht⟩) hS.2.2 dX9_fails_7

set_option maxHeartbeats 4000000 in
set_option maxRecDepth 100000 in
/-- WeekBankModel.number:  -/
theorem k_X9_number (l : Launch) (dC : Nat → ClassId) (dI : Nat → Nat → Nat) (dA : Nat → ClassId) (sz : Nat) (X : va_W) (Γ : ty_G) (hU : Un Γ) (g : gh) (h0 : Nat) (t_h0 : ty Γ h0 30) (p1 : Int32) (p2 : Int32) (hp : 0 ≤ g 116 0 ∧ g 116 0 ≤ g 115 0 ∧ g 115 0 ≤ g 114 0 ∧ g 114 0 ≤ 300) (hf : 0 ≤ g 119 0 ∧ g 119 0 ≤ 3) : Met l yX9_number (.code yX9_number cX9_number 4 (Option.some Jvm.ClassFile.FieldType.int) :: AL) ({ frames := 2, cells := 0, slots := 0, locals := 42 }) (PCx dC dI dA sz X Γ g [.ref h0, .int p1, .int p2]) (va_Qi (fun (r : Int32) (u : gh) => (∀ c j : Nat, c ≠ 115 → c ≠ 116 → c ≠ 117 → c ≠ 118 → c ≠ 119 → c ≠ 120 → u c j = g c j) ∧ ((0 ≤ u 116 0 ∧ u 116 0 ≤ u 115 0 ∧ u 115 0 ≤ g 114 0) ∧ (0 ≤ u 119 0 ∧ u 119 0 ≤ 3))) (okb dC dI dA sz X Γ) (ty_A sz)) 0 0 (ty_A sz) := by
  refine Met.ofW (cc := cX9_number) (maxL := 4) (ret := (Option.some Jvm.ClassFile.FieldType.int)) (by decide) rfl ?_
  intro p e s m args below meth c s₁ B hml hv
  obtain ⟨rfl, hG, hE⟩ := hv
  have hx := B.exec
  have hb := B.bytes
  have hr := B.returns
  have hts := atoms_spec B.pre
  have hA : ∀ w ∈ AL, w.before _ s = true := fun w h => hts w (List.mem_cons_of_mem _ h)
  have hown : s.vm.findClass RX9 = some m.cls := findClass_of_methodNamed B.named
  have hlocks := B.notSynchronized
  have hS : va_S (ty_A sz) s.heap s.heap [] := va_S.rf
  have hl := lv_entry ([.ref h0, .int p1, .int p2]) (n := 4) (Nat.le_of_ble_eq_true rfl)
  rw [lg_entry_eq]
  generalize (lg_sl ([.ref h0, .int p1, .int p2]) ++ List.replicate (4 - (lg_sl ([.ref h0, .int p1, .int p2])).length) Slot.unset).toArray = ls at hl ⊢
  have hl : lv_has ls 4 [(0, .ref h0), (1, .int p1), (2, .int p2)] := hl
  refine lv_aload_n hx hb dX9_number_0 rfl (lv_at hl 0 rfl) ?_
  refine get_X9_19 hx hb hA hown hE hG t_h0 wd_4_149 dX9_number_1 (fun x1 h2 => ?_)
  refine ty_if_ne (tgt := 20) hx hb dX9_number_4 (by decide) (fun c4 => ?_) (fun c4 => ?_)
  · skip
    refine lv_aload_n hx hb dX9_number_20 rfl (lv_at hl 0 rfl) ?_
    refine get_X9_19 hx hb hA hown hE hG t_h0 wd_4_149 dX9_number_21 (fun x5 h6 => ?_)
    refine ty_if_ne (tgt := 44) hx hb dX9_number_24 (by decide) (fun c8 => ?_) (fun c8 => ?_)
    · skip
      refine lv_aload_n hx hb dX9_number_44 rfl (lv_at hl 0 rfl) ?_
      refine get_X9_19 hx hb hA hown hE hG t_h0 wd_4_149 dX9_number_45 (fun x9 h10 => ?_)
      refine ty_if_eq (tgt := 53) hx hb dX9_number_48 (by decide) (fun c12 => ?_) (fun c12 => ?_)
      · skip
        refine lv_aload_n hx hb dX9_number_53 rfl (lv_at hl 0 rfl) ?_
        refine get_X9_18 hx hb hA hown hE hG t_h0 wd_4_148 dX9_number_54 (fun x13 h14 => ?_)
        refine lv_istore_n (lv' := [(3, .int x13), (0, .ref h0), (1, .int p1), (2, .int p2)]) hx hb dX9_number_57 rfl hl (by decide) rfl (fun ls hl => ?_)
        refine lv_aload_n hx hb dX9_number_58 rfl (lv_at hl 1 rfl) ?_
        refine cV (va_runV (C := RX9) (As := []) (rest := []) ⟨hx, hb, hml, hown, hA⟩ (k_X9_next l dC dI dA sz X Γ hU g h0 t_h0   (by omega)) ⟨callB_of 0 hA (al_A wd_5_74) rfl rfl rfl (hA _ wd_1_7) (hA _ wd_5_71) (by decide +kernel) ⟨Nat.le_of_ble_eq_true rfl, Nat.le_of_ble_eq_true rfl⟩, hA _ wd_5_73, hA _ ws_39⟩ ⟨bl, recv_X9 hE hG t_h0, fun U hU9 hW9 => ⟨rfl, by rw [hU9]; exact hG, hE.go hS hU9 hW9⟩⟩ rfl rfl hl.1 rfl (lv_room (Nat.le_of_ble_eq_true rfl)) dX9_number_59 ⟨Nat.zero_le _, Nat.zero_le _⟩) hS (fun u16 H locs w17 hG hS => ?_)
        obtain ⟨hf18, w17⟩ := w17
        refine lv_iload_n hx hb dX9_number_62 rfl (lv_at hl 0 rfl) ?_
        have hk19 : u16 119 0 = g 119 0 := hf18 119 0 (by decide) (by decide) (by decide) (by decide)
        exact W.iret (v := x13) hx hb hr (fun t ht hW => ⟨⟨x13, u16, rfl, ⟨(fun c j h115 h116 h117 h118 h119 h120 => by rw [hf18 c j h115 h116 h117 h118]), (by omega)⟩, ok1 ht hG⟩, hS.F ht⟩) hS.2.2 dX9_number_63
      · skip
        refine ty_iconst hx hb (0) dX9_number_51 (by decide) (fun x20 h21 => ?_)
        exact W.iret (v := x20) hx hb hr (fun t ht hW => ⟨⟨x20, g, rfl, ⟨(fun c j h115 h116 h117 h118 h119 h120 => by rfl), (by omega)⟩, ok1 ht hG⟩, hS.F ht⟩) hS.2.2 dX9_number_52
    · skip
      refine lv_aload_n hx hb dX9_number_27 rfl (lv_at hl 0 rfl) ?_
      refine get_X9_18 hx hb hA hown hE hG t_h0 wd_4_148 dX9_number_28 (fun x22 h23 => ?_)
      refine lv_iload_n hx hb dX9_number_31 rfl (lv_at hl 1 rfl) ?_
      refine lv_iload_n hx hb dX9_number_32 rfl (lv_at hl 2 rfl) ?_
      refine cI (va_runS (As := [.int x22, .int p1, .int p2]) (rest := []) ⟨hx, hb, hml, hown, hA⟩ (k_X9_within l dC dI dA sz X Γ hU g x22 p1 p2   ) ⟨callB_of 3 hA (al_A wd_5_38) rfl rfl rfl (hA _ wd_1_7) (hA _ wd_5_36) (by decide +kernel) ⟨Nat.le_of_ble_eq_true rfl, Nat.le_of_ble_eq_true rfl⟩, hA _ wd_5_37⟩ ⟨bl, fun U hU9 hW9 => ⟨rfl, by rw [hU9]; exact hG, hE.go hS hU9 hW9⟩⟩ rfl rfl hl.1 rfl (lv_room (Nat.le_of_ble_eq_true rfl)) dX9_number_33 ⟨Nat.zero_le _, Nat.zero_le _⟩) hS (fun x27 u25 H locs w26 hG hS => ?_)
      obtain ⟨eu28, w26⟩ := w26
      rw [eu28] at hG
      refine ty_if_ne (tgt := 44) hx hb dX9_number_36 (by decide) (fun c29 => ?_) (fun c29 => ?_)
      · skip
        refine lv_aload_n hx hb dX9_number_44 rfl (lv_at hl 0 rfl) ?_
        refine get_X9_19 hx hb hA hown hE hG t_h0 wd_4_149 dX9_number_45 (fun x30 h31 => ?_)
        refine ty_if_eq (tgt := 53) hx hb dX9_number_48 (by decide) (fun c33 => ?_) (fun c33 => ?_)
        · skip
          refine lv_aload_n hx hb dX9_number_53 rfl (lv_at hl 0 rfl) ?_
          refine get_X9_18 hx hb hA hown hE hG t_h0 wd_4_148 dX9_number_54 (fun x34 h35 => ?_)
          refine lv_istore_n (lv' := [(3, .int x34), (0, .ref h0), (1, .int p1), (2, .int p2)]) hx hb dX9_number_57 rfl hl (by decide) rfl (fun ls hl => ?_)
          refine lv_aload_n hx hb dX9_number_58 rfl (lv_at hl 1 rfl) ?_
          refine cV (va_runV (C := RX9) (As := []) (rest := []) ⟨hx, hb, hml, hown, hA⟩ (k_X9_next l dC dI dA sz X Γ hU g h0 t_h0   (by omega)) ⟨callB_of 0 hA (al_A wd_5_74) rfl rfl rfl (hA _ wd_1_7) (hA _ wd_5_71) (by decide +kernel) ⟨Nat.le_of_ble_eq_true rfl, Nat.le_of_ble_eq_true rfl⟩, hA _ wd_5_73, hA _ ws_39⟩ ⟨bl, recv_X9 hE hG t_h0, fun U hU9 hW9 => ⟨rfl, by rw [hU9]; exact hG, hE.go hS hU9 hW9⟩⟩ rfl rfl hl.1 rfl (lv_room (Nat.le_of_ble_eq_true rfl)) dX9_number_59 ⟨Nat.zero_le _, Nat.zero_le _⟩) hS (fun u37 H locs w38 hG hS => ?_)
          obtain ⟨hf39, w38⟩ := w38
          refine lv_iload_n hx hb dX9_number_62 rfl (lv_at hl 0 rfl) ?_
          have hk40 : u37 119 0 = g 119 0 := hf39 119 0 (by decide) (by decide) (by decide) (by decide)
          exact W.iret (v := x34) hx hb hr (fun t ht hW => ⟨⟨x34, u37, rfl, ⟨(fun c j h115 h116 h117 h118 h119 h120 => by rw [hf39 c j h115 h116 h117 h118]), (by omega)⟩, ok1 ht hG⟩, hS.F ht⟩) hS.2.2 dX9_number_63
        · skip
          refine ty_iconst hx hb (0) dX9_number_51 (by decide) (fun x41 h42 => ?_)
          exact W.iret (v := x41) hx hb hr (fun t ht hW => ⟨⟨x41, g, rfl, ⟨(fun c j h115 h116 h117 h118 h119 h120 => by rfl), (by omega)⟩, ok1 ht hG⟩, hS.F ht⟩) hS.2.2 dX9_number_52
      · skip
        refine lv_aload_n hx hb dX9_number_39 rfl (lv_at hl 0 rfl) ?_
        refine ty_iconst hx hb (2) dX9_number_40 (by decide) (fun x43 h44 => ?_)
        refine cV (va_runV (C := RX9) (As := [.int x43]) (rest := []) ⟨hx, hb, hml, hown, hA⟩ (k_X9_fails l dC dI dA sz X Γ hU g h0 t_h0 x43   ) ⟨callB_of 1 hA (al_A wd_5_102) rfl rfl rfl (hA _ wd_1_7) (hA _ wd_5_99) (by decide +kernel) ⟨Nat.le_of_ble_eq_true rfl, Nat.le_of_ble_eq_true rfl⟩, hA _ wd_5_101, hA _ ws_43⟩ ⟨bl, recv_X9 hE hG t_h0, fun U hU9 hW9 => ⟨rfl, by rw [hU9]; exact hG, hE.go hS hU9 hW9⟩⟩ rfl rfl hl.1 rfl (lv_room (Nat.le_of_ble_eq_true rfl)) dX9_number_41 ⟨Nat.zero_le _, Nat.zero_le _⟩) hS (fun u45 H locs w46 hG hS => ?_)
        obtain ⟨hf47, w46⟩ := w46
        refine lv_aload_n hx hb dX9_number_44 rfl (lv_at hl 0 rfl) ?_
        refine get_X9_19 hx hb hA hown hE hG t_h0 wd_4_149 dX9_number_45 (fun x48 h49 => ?_)
        refine ty_if_eq (tgt := 53) hx hb dX9_number_48 (by decide) (fun c51 => ?_) (fun c51 => ?_)
        · skip
          refine lv_aload_n hx hb dX9_number_53 rfl (lv_at hl 0 rfl) ?_
          refine get_X9_18 hx hb hA hown hE hG t_h0 wd_4_148 dX9_number_54 (fun x52 h53 => ?_)
          have hk55 : u45 118 0 = g 118 0 := hf47 118 0 (by decide) (by decide)
          refine lv_istore_n (lv' := [(3, .int x52), (0, .ref h0), (1, .int p1), (2, .int p2)]) hx hb dX9_number_57 rfl hl (by decide) rfl (fun ls hl => ?_)
          refine lv_aload_n hx hb dX9_number_58 rfl (lv_at hl 1 rfl) ?_
          have hk56 : u45 114 0 = g 114 0 := hf47 114 0 (by decide) (by decide)
          have hk57 : u45 115 0 = g 115 0 := hf47 115 0 (by decide) (by decide)
          refine cV (va_runV (C := RX9) (As := []) (rest := []) ⟨hx, hb, hml, hown, hA⟩ (k_X9_next l dC dI dA sz X Γ hU u45 h0 t_h0   (by omega)) ⟨callB_of 0 hA (al_A wd_5_74) rfl rfl rfl (hA _ wd_1_7) (hA _ wd_5_71) (by decide +kernel) ⟨Nat.le_of_ble_eq_true rfl, Nat.le_of_ble_eq_true rfl⟩, hA _ wd_5_73, hA _ ws_39⟩ ⟨bl, recv_X9 hE hG t_h0, fun U hU9 hW9 => ⟨rfl, by rw [hU9]; exact hG, hE.go hS hU9 hW9⟩⟩ rfl rfl hl.1 rfl (lv_room (Nat.le_of_ble_eq_true rfl)) dX9_number_59 ⟨Nat.zero_le _, Nat.zero_le _⟩) hS (fun u58 H locs w59 hG hS => ?_)
          obtain ⟨hf60, w59⟩ := w59
          refine lv_iload_n hx hb dX9_number_62 rfl (lv_at hl 0 rfl) ?_
          have hk61 : u58 119 0 = u45 119 0 := hf60 119 0 (by decide) (by decide) (by decide) (by decide)
          exact W.iret (v := x52) hx hb hr (fun t ht hW => ⟨⟨x52, u58, rfl, ⟨(fun c j h115 h116 h117 h118 h119 h120 => by rw [hf60 c j h115 h116 h117 h118, hf47 c j h119 h120]), (by omega)⟩, ok1 ht hG⟩, hS.F ht⟩) hS.2.2 dX9_number_63
        · skip
          refine ty_iconst hx hb (0) dX9_number_51 (by decide) (fun x62 h63 => ?_)
          have hk64 : u45 115 0 = g 115 0 := hf47 115 0 (by decide) (by decide)
          have hk65 : u45 116 0 = g 116 0 := hf47 116 0 (by decide) (by decide)
          exact W.iret (v := x62) hx hb hr (fun t ht hW => ⟨⟨x62, u45, rfl, ⟨(fun c j h115 h116 h117 h118 h119 h120 => by rw [hf47 c j h119 h120]), (by omega)⟩, ok1 ht hG⟩, hS.F ht⟩) hS.2.2 dX9_number_52
  · skip
    refine lv_aload_n hx hb dX9_number_7 rfl (lv_at hl 0 rfl) ?_
    refine get_X9_17 hx hb hA hown hE hG t_h0 wd_4_147 dX9_number_8 (fun x66 h67 => ?_)
    refine ty_iconst hx hb (2) dX9_number_11 (by decide) (fun x69 h70 => ?_)
    refine ty_icmp_eq (tgt := 20) hx hb dX9_number_12 (by decide) (fun c71 => ?_) (fun c71 => ?_)
    · skip
      refine lv_aload_n hx hb dX9_number_20 rfl (lv_at hl 0 rfl) ?_
      refine get_X9_19 hx hb hA hown hE hG t_h0 wd_4_149 dX9_number_21 (fun x72 h73 => ?_)
      refine ty_if_ne (tgt := 44) hx hb dX9_number_24 (by decide) (fun c75 => ?_) (fun c75 => ?_)
      · skip
        refine lv_aload_n hx hb dX9_number_44 rfl (lv_at hl 0 rfl) ?_
        refine get_X9_19 hx hb hA hown hE hG t_h0 wd_4_149 dX9_number_45 (fun x76 h77 => ?_)
        refine ty_if_eq (tgt := 53) hx hb dX9_number_48 (by decide) (fun c79 => ?_) (fun c79 => ?_)
        · skip
          refine lv_aload_n hx hb dX9_number_53 rfl (lv_at hl 0 rfl) ?_
          refine get_X9_18 hx hb hA hown hE hG t_h0 wd_4_148 dX9_number_54 (fun x80 h81 => ?_)
          refine lv_istore_n (lv' := [(3, .int x80), (0, .ref h0), (1, .int p1), (2, .int p2)]) hx hb dX9_number_57 rfl hl (by decide) rfl (fun ls hl => ?_)
          refine lv_aload_n hx hb dX9_number_58 rfl (lv_at hl 1 rfl) ?_
          refine cV (va_runV (C := RX9) (As := []) (rest := []) ⟨hx, hb, hml, hown, hA⟩ (k_X9_next l dC dI dA sz X Γ hU g h0 t_h0   (by omega)) ⟨callB_of 0 hA (al_A wd_5_74) rfl rfl rfl (hA _ wd_1_7) (hA _ wd_5_71) (by decide +kernel) ⟨Nat.le_of_ble_eq_true rfl, Nat.le_of_ble_eq_true rfl⟩, hA _ wd_5_73, hA _ ws_39⟩ ⟨bl, recv_X9 hE hG t_h0, fun U hU9 hW9 => ⟨rfl, by rw [hU9]; exact hG, hE.go hS hU9 hW9⟩⟩ rfl rfl hl.1 rfl (lv_room (Nat.le_of_ble_eq_true rfl)) dX9_number_59 ⟨Nat.zero_le _, Nat.zero_le _⟩) hS (fun u83 H locs w84 hG hS => ?_)
          obtain ⟨hf85, w84⟩ := w84
          refine lv_iload_n hx hb dX9_number_62 rfl (lv_at hl 0 rfl) ?_
          have hk86 : u83 119 0 = g 119 0 := hf85 119 0 (by decide) (by decide) (by decide) (by decide)
          exact W.iret (v := x80) hx hb hr (fun t ht hW => ⟨⟨x80, u83, rfl, ⟨(fun c j h115 h116 h117 h118 h119 h120 => by rw [hf85 c j h115 h116 h117 h118]), (by omega)⟩, ok1 ht hG⟩, hS.F ht⟩) hS.2.2 dX9_number_63
        · skip
          refine ty_iconst hx hb (0) dX9_number_51 (by decide) (fun x87 h88 => ?_)
          exact W.iret (v := x87) hx hb hr (fun t ht hW => ⟨⟨x87, g, rfl, ⟨(fun c j h115 h116 h117 h118 h119 h120 => by rfl), (by omega)⟩, ok1 ht hG⟩, hS.F ht⟩) hS.2.2 dX9_number_52
      · skip
        refine lv_aload_n hx hb dX9_number_27 rfl (lv_at hl 0 rfl) ?_
        refine get_X9_18 hx hb hA hown hE hG t_h0 wd_4_148 dX9_number_28 (fun x89 h90 => ?_)
        refine lv_iload_n hx hb dX9_number_31 rfl (lv_at hl 1 rfl) ?_
        refine lv_iload_n hx hb dX9_number_32 rfl (lv_at hl 2 rfl) ?_
        refine cI (va_runS (As := [.int x89, .int p1, .int p2]) (rest := []) ⟨hx, hb, hml, hown, hA⟩ (k_X9_within l dC dI dA sz X Γ hU g x89 p1 p2   ) ⟨callB_of 3 hA (al_A wd_5_38) rfl rfl rfl (hA _ wd_1_7) (hA _ wd_5_36) (by decide +kernel) ⟨Nat.le_of_ble_eq_true rfl, Nat.le_of_ble_eq_true rfl⟩, hA _ wd_5_37⟩ ⟨bl, fun U hU9 hW9 => ⟨rfl, by rw [hU9]; exact hG, hE.go hS hU9 hW9⟩⟩ rfl rfl hl.1 rfl (lv_room (Nat.le_of_ble_eq_true rfl)) dX9_number_33 ⟨Nat.zero_le _, Nat.zero_le _⟩) hS (fun x94 u92 H locs w93 hG hS => ?_)
        obtain ⟨eu95, w93⟩ := w93
        rw [eu95] at hG
        refine ty_if_ne (tgt := 44) hx hb dX9_number_36 (by decide) (fun c96 => ?_) (fun c96 => ?_)
        · skip
          refine lv_aload_n hx hb dX9_number_44 rfl (lv_at hl 0 rfl) ?_
          refine get_X9_19 hx hb hA hown hE hG t_h0 wd_4_149 dX9_number_45 (fun x97 h98 => ?_)
          refine ty_if_eq (tgt := 53) hx hb dX9_number_48 (by decide) (fun c100 => ?_) (fun c100 => ?_)
          · skip
            refine lv_aload_n hx hb dX9_number_53 rfl (lv_at hl 0 rfl) ?_
            refine get_X9_18 hx hb hA hown hE hG t_h0 wd_4_148 dX9_number_54 (fun x101 h102 => ?_)
            refine lv_istore_n (lv' := [(3, .int x101), (0, .ref h0), (1, .int p1), (2, .int p2)]) hx hb dX9_number_57 rfl hl (by decide) rfl (fun ls hl => ?_)
            refine lv_aload_n hx hb dX9_number_58 rfl (lv_at hl 1 rfl) ?_
            refine cV (va_runV (C := RX9) (As := []) (rest := []) ⟨hx, hb, hml, hown, hA⟩ (k_X9_next l dC dI dA sz X Γ hU g h0 t_h0   (by omega)) ⟨callB_of 0 hA (al_A wd_5_74) rfl rfl rfl (hA _ wd_1_7) (hA _ wd_5_71) (by decide +kernel) ⟨Nat.le_of_ble_eq_true rfl, Nat.le_of_ble_eq_true rfl⟩, hA _ wd_5_73, hA _ ws_39⟩ ⟨bl, recv_X9 hE hG t_h0, fun U hU9 hW9 => ⟨rfl, by rw [hU9]; exact hG, hE.go hS hU9 hW9⟩⟩ rfl rfl hl.1 rfl (lv_room (Nat.le_of_ble_eq_true rfl)) dX9_number_59 ⟨Nat.zero_le _, Nat.zero_le _⟩) hS (fun u104 H locs w105 hG hS => ?_)
            obtain ⟨hf106, w105⟩ := w105
            refine lv_iload_n hx hb dX9_number_62 rfl (lv_at hl 0 rfl) ?_
            have hk107 : u104 119 0 = g 119 0 := hf106 119 0 (by decide) (by decide) (by decide) (by decide)
            exact W.iret (v := x101) hx hb hr (fun t ht hW => ⟨⟨x101, u104, rfl, ⟨(fun c j h115 h116 h117 h118 h119 h120 => by rw [hf106 c j h115 h116 h117 h118]), (by omega)⟩, ok1 ht hG⟩, hS.F ht⟩) hS.2.2 dX9_number_63
          · skip
            refine ty_iconst hx hb (0) dX9_number_51 (by decide) (fun x108 h109 => ?_)
            exact W.iret (v := x108) hx hb hr (fun t ht hW => ⟨⟨x108, g, rfl, ⟨(fun c j h115 h116 h117 h118 h119 h120 => by rfl), (by omega)⟩, ok1 ht hG⟩, hS.F ht⟩) hS.2.2 dX9_number_52
        · skip
          refine lv_aload_n hx hb dX9_number_39 rfl (lv_at hl 0 rfl) ?_
          refine ty_iconst hx hb (2) dX9_number_40 (by decide) (fun x110 h111 => ?_)
          refine cV (va_runV (C := RX9) (As := [.int x110]) (rest := []) ⟨hx, hb, hml, hown, hA⟩ (k_X9_fails l dC dI dA sz X Γ hU g h0 t_h0 x110   ) ⟨callB_of 1 hA (al_A wd_5_102) rfl rfl rfl (hA _ wd_1_7) (hA _ wd_5_99) (by decide +kernel) ⟨Nat.le_of_ble_eq_true rfl, Nat.le_of_ble_eq_true rfl⟩, hA _ wd_5_101, hA _ ws_43⟩ ⟨bl, recv_X9 hE hG t_h0, fun U hU9 hW9 => ⟨rfl, by rw [hU9]; exact hG, hE.go hS hU9 hW9⟩⟩ rfl rfl hl.1 rfl (lv_room (Nat.le_of_ble_eq_true rfl)) dX9_number_41 ⟨Nat.zero_le _, Nat.zero_le _⟩) hS (fun u112 H locs w113 hG hS => ?_)
          obtain ⟨hf114, w113⟩ := w113
          refine lv_aload_n hx hb dX9_number_44 rfl (lv_at hl 0 rfl) ?_
          refine get_X9_19 hx hb hA hown hE hG t_h0 wd_4_149 dX9_number_45 (fun x115 h116 => ?_)
          refine ty_if_eq (tgt := 53) hx hb dX9_number_48 (by decide) (fun c118 => ?_) (fun c118 => ?_)
          · skip
            refine lv_aload_n hx hb dX9_number_53 rfl (lv_at hl 0 rfl) ?_
            refine get_X9_18 hx hb hA hown hE hG t_h0 wd_4_148 dX9_number_54 (fun x119 h120 => ?_)
            have hk122 : u112 118 0 = g 118 0 := hf114 118 0 (by decide) (by decide)
            refine lv_istore_n (lv' := [(3, .int x119), (0, .ref h0), (1, .int p1), (2, .int p2)]) hx hb dX9_number_57 rfl hl (by decide) rfl (fun ls hl => ?_)
            refine lv_aload_n hx hb dX9_number_58 rfl (lv_at hl 1 rfl) ?_
            have hk123 : u112 114 0 = g 114 0 := hf114 114 0 (by decide) (by decide)
            have hk124 : u112 115 0 = g 115 0 := hf114 115 0 (by decide) (by decide)
            refine cV (va_runV (C := RX9) (As := []) (rest := []) ⟨hx, hb, hml, hown, hA⟩ (k_X9_next l dC dI dA sz X Γ hU u112 h0 t_h0   (by omega)) ⟨callB_of 0 hA (al_A wd_5_74) rfl rfl rfl (hA _ wd_1_7) (hA _ wd_5_71) (by decide +kernel) ⟨Nat.le_of_ble_eq_true rfl, Nat.le_of_ble_eq_true rfl⟩, hA _ wd_5_73, hA _ ws_39⟩ ⟨bl, recv_X9 hE hG t_h0, fun U hU9 hW9 => ⟨rfl, by rw [hU9]; exact hG, hE.go hS hU9 hW9⟩⟩ rfl rfl hl.1 rfl (lv_room (Nat.le_of_ble_eq_true rfl)) dX9_number_59 ⟨Nat.zero_le _, Nat.zero_le _⟩) hS (fun u125 H locs w126 hG hS => ?_)
            obtain ⟨hf127, w126⟩ := w126
            refine lv_iload_n hx hb dX9_number_62 rfl (lv_at hl 0 rfl) ?_
            have hk128 : u125 119 0 = u112 119 0 := hf127 119 0 (by decide) (by decide) (by decide) (by decide)
            exact W.iret (v := x119) hx hb hr (fun t ht hW => ⟨⟨x119, u125, rfl, ⟨(fun c j h115 h116 h117 h118 h119 h120 => by rw [hf127 c j h115 h116 h117 h118, hf114 c j h119 h120]), (by omega)⟩, ok1 ht hG⟩, hS.F ht⟩) hS.2.2 dX9_number_63
          · skip
            refine ty_iconst hx hb (0) dX9_number_51 (by decide) (fun x129 h130 => ?_)
            have hk131 : u112 115 0 = g 115 0 := hf114 115 0 (by decide) (by decide)
            have hk132 : u112 116 0 = g 116 0 := hf114 116 0 (by decide) (by decide)
            exact W.iret (v := x129) hx hb hr (fun t ht hW => ⟨⟨x129, u112, rfl, ⟨(fun c j h115 h116 h117 h118 h119 h120 => by rw [hf114 c j h119 h120]), (by omega)⟩, ok1 ht hG⟩, hS.F ht⟩) hS.2.2 dX9_number_52
    · skip
      refine lv_aload_n hx hb dX9_number_15 rfl (lv_at hl 0 rfl) ?_
      refine ty_iconst hx hb (1) dX9_number_16 (by decide) (fun x133 h134 => ?_)
      refine cV (va_runV (C := RX9) (As := [.int x133]) (rest := []) ⟨hx, hb, hml, hown, hA⟩ (k_X9_fails l dC dI dA sz X Γ hU g h0 t_h0 x133   ) ⟨callB_of 1 hA (al_A wd_5_102) rfl rfl rfl (hA _ wd_1_7) (hA _ wd_5_99) (by decide +kernel) ⟨Nat.le_of_ble_eq_true rfl, Nat.le_of_ble_eq_true rfl⟩, hA _ wd_5_101, hA _ ws_43⟩ ⟨bl, recv_X9 hE hG t_h0, fun U hU9 hW9 => ⟨rfl, by rw [hU9]; exact hG, hE.go hS hU9 hW9⟩⟩ rfl rfl hl.1 rfl (lv_room (Nat.le_of_ble_eq_true rfl)) dX9_number_17 ⟨Nat.zero_le _, Nat.zero_le _⟩) hS (fun u135 H locs w136 hG hS => ?_)
      obtain ⟨hf137, w136⟩ := w136
      refine lv_aload_n hx hb dX9_number_20 rfl (lv_at hl 0 rfl) ?_
      refine get_X9_19 hx hb hA hown hE hG t_h0 wd_4_149 dX9_number_21 (fun x138 h139 => ?_)
      refine ty_if_ne (tgt := 44) hx hb dX9_number_24 (by decide) (fun c141 => ?_) (fun c141 => ?_)
      · skip
        refine lv_aload_n hx hb dX9_number_44 rfl (lv_at hl 0 rfl) ?_
        refine get_X9_19 hx hb hA hown hE hG t_h0 wd_4_149 dX9_number_45 (fun x142 h143 => ?_)
        refine ty_if_eq (tgt := 53) hx hb dX9_number_48 (by decide) (fun c145 => ?_) (fun c145 => ?_)
        · skip
          refine lv_aload_n hx hb dX9_number_53 rfl (lv_at hl 0 rfl) ?_
          refine get_X9_18 hx hb hA hown hE hG t_h0 wd_4_148 dX9_number_54 (fun x146 h147 => ?_)
          have hk149 : u135 118 0 = g 118 0 := hf137 118 0 (by decide) (by decide)
          refine lv_istore_n (lv' := [(3, .int x146), (0, .ref h0), (1, .int p1), (2, .int p2)]) hx hb dX9_number_57 rfl hl (by decide) rfl (fun ls hl => ?_)
          refine lv_aload_n hx hb dX9_number_58 rfl (lv_at hl 1 rfl) ?_
          have hk150 : u135 114 0 = g 114 0 := hf137 114 0 (by decide) (by decide)
          have hk151 : u135 115 0 = g 115 0 := hf137 115 0 (by decide) (by decide)
          refine cV (va_runV (C := RX9) (As := []) (rest := []) ⟨hx, hb, hml, hown, hA⟩ (k_X9_next l dC dI dA sz X Γ hU u135 h0 t_h0   (by omega)) ⟨callB_of 0 hA (al_A wd_5_74) rfl rfl rfl (hA _ wd_1_7) (hA _ wd_5_71) (by decide +kernel) ⟨Nat.le_of_ble_eq_true rfl, Nat.le_of_ble_eq_true rfl⟩, hA _ wd_5_73, hA _ ws_39⟩ ⟨bl, recv_X9 hE hG t_h0, fun U hU9 hW9 => ⟨rfl, by rw [hU9]; exact hG, hE.go hS hU9 hW9⟩⟩ rfl rfl hl.1 rfl (lv_room (Nat.le_of_ble_eq_true rfl)) dX9_number_59 ⟨Nat.zero_le _, Nat.zero_le _⟩) hS (fun u152 H locs w153 hG hS => ?_)
          obtain ⟨hf154, w153⟩ := w153
          refine lv_iload_n hx hb dX9_number_62 rfl (lv_at hl 0 rfl) ?_
          have hk155 : u152 119 0 = u135 119 0 := hf154 119 0 (by decide) (by decide) (by decide) (by decide)
          exact W.iret (v := x146) hx hb hr (fun t ht hW => ⟨⟨x146, u152, rfl, ⟨(fun c j h115 h116 h117 h118 h119 h120 => by rw [hf154 c j h115 h116 h117 h118, hf137 c j h119 h120]), (by omega)⟩, ok1 ht hG⟩, hS.F ht⟩) hS.2.2 dX9_number_63
        · skip
          refine ty_iconst hx hb (0) dX9_number_51 (by decide) (fun x156 h157 => ?_)
          have hk158 : u135 115 0 = g 115 0 := hf137 115 0 (by decide) (by decide)
          have hk159 : u135 116 0 = g 116 0 := hf137 116 0 (by decide) (by decide)
          exact W.iret (v := x156) hx hb hr (fun t ht hW => ⟨⟨x156, u135, rfl, ⟨(fun c j h115 h116 h117 h118 h119 h120 => by rw [hf137 c j h119 h120]), (by omega)⟩, ok1 ht hG⟩, hS.F ht⟩) hS.2.2 dX9_number_52
      · skip
        refine lv_aload_n hx hb dX9_number_27 rfl (lv_at hl 0 rfl) ?_
        refine get_X9_18 hx hb hA hown hE hG t_h0 wd_4_148 dX9_number_28 (fun x160 h161 => ?_)
        have hk163 : u135 118 0 = g 118 0 := hf137 118 0 (by decide) (by decide)
        refine lv_iload_n hx hb dX9_number_31 rfl (lv_at hl 1 rfl) ?_
        refine lv_iload_n hx hb dX9_number_32 rfl (lv_at hl 2 rfl) ?_
        refine cI (va_runS (As := [.int x160, .int p1, .int p2]) (rest := []) ⟨hx, hb, hml, hown, hA⟩ (k_X9_within l dC dI dA sz X Γ hU u135 x160 p1 p2   ) ⟨callB_of 3 hA (al_A wd_5_38) rfl rfl rfl (hA _ wd_1_7) (hA _ wd_5_36) (by decide +kernel) ⟨Nat.le_of_ble_eq_true rfl, Nat.le_of_ble_eq_true rfl⟩, hA _ wd_5_37⟩ ⟨bl, fun U hU9 hW9 => ⟨rfl, by rw [hU9]; exact hG, hE.go hS hU9 hW9⟩⟩ rfl rfl hl.1 rfl (lv_room (Nat.le_of_ble_eq_true rfl)) dX9_number_33 ⟨Nat.zero_le _, Nat.zero_le _⟩) hS (fun x166 u164 H locs w165 hG hS => ?_)
        obtain ⟨eu167, w165⟩ := w165
        rw [eu167] at hG
        refine ty_if_ne (tgt := 44) hx hb dX9_number_36 (by decide) (fun c168 => ?_) (fun c168 => ?_)
        · skip
          refine lv_aload_n hx hb dX9_number_44 rfl (lv_at hl 0 rfl) ?_
          refine get_X9_19 hx hb hA hown hE hG t_h0 wd_4_149 dX9_number_45 (fun x169 h170 => ?_)
          refine ty_if_eq (tgt := 53) hx hb dX9_number_48 (by decide) (fun c172 => ?_) (fun c172 => ?_)
          · skip
            refine lv_aload_n hx hb dX9_number_53 rfl (lv_at hl 0 rfl) ?_
            refine get_X9_18 hx hb hA hown hE hG t_h0 wd_4_148 dX9_number_54 (fun x173 h174 => ?_)
            refine lv_istore_n (lv' := [(3, .int x173), (0, .ref h0), (1, .int p1), (2, .int p2)]) hx hb dX9_number_57 rfl hl (by decide) rfl (fun ls hl => ?_)
            refine lv_aload_n hx hb dX9_number_58 rfl (lv_at hl 1 rfl) ?_
            have hk176 : u135 114 0 = g 114 0 := hf137 114 0 (by decide) (by decide)
            have hk177 : u135 115 0 = g 115 0 := hf137 115 0 (by decide) (by decide)
            refine cV (va_runV (C := RX9) (As := []) (rest := []) ⟨hx, hb, hml, hown, hA⟩ (k_X9_next l dC dI dA sz X Γ hU u135 h0 t_h0   (by omega)) ⟨callB_of 0 hA (al_A wd_5_74) rfl rfl rfl (hA _ wd_1_7) (hA _ wd_5_71) (by decide +kernel) ⟨Nat.le_of_ble_eq_true rfl, Nat.le_of_ble_eq_true rfl⟩, hA _ wd_5_73, hA _ ws_39⟩ ⟨bl, recv_X9 hE hG t_h0, fun U hU9 hW9 => ⟨rfl, by rw [hU9]; exact hG, hE.go hS hU9 hW9⟩⟩ rfl rfl hl.1 rfl (lv_room (Nat.le_of_ble_eq_true rfl)) dX9_number_59 ⟨Nat.zero_le _, Nat.zero_le _⟩) hS (fun u178 H locs w179 hG hS => ?_)
            obtain ⟨hf180, w179⟩ := w179
            refine lv_iload_n hx hb dX9_number_62 rfl (lv_at hl 0 rfl) ?_
            have hk181 : u178 119 0 = u135 119 0 := hf180 119 0 (by decide) (by decide) (by decide) (by decide)
            exact W.iret (v := x173) hx hb hr (fun t ht hW => ⟨⟨x173, u178, rfl, ⟨(fun c j h115 h116 h117 h118 h119 h120 => by rw [hf180 c j h115 h116 h117 h118, hf137 c j h119 h120]), (by omega)⟩, ok1 ht hG⟩, hS.F ht⟩) hS.2.2 dX9_number_63
          · skip
            refine ty_iconst hx hb (0) dX9_number_51 (by decide) (fun x182 h183 => ?_)
            have hk184 : u135 115 0 = g 115 0 := hf137 115 0 (by decide) (by decide)
            have hk185 : u135 116 0 = g 116 0 := hf137 116 0 (by decide) (by decide)
            exact W.iret (v := x182) hx hb hr (fun t ht hW => ⟨⟨x182, u135, rfl, ⟨(fun c j h115 h116 h117 h118 h119 h120 => by rw [hf137 c j h119 h120]), (by omega)⟩, ok1 ht hG⟩, hS.F ht⟩) hS.2.2 dX9_number_52
        · skip
          refine lv_aload_n hx hb dX9_number_39 rfl (lv_at hl 0 rfl) ?_
          refine ty_iconst hx hb (2) dX9_number_40 (by decide) (fun x186 h187 => ?_)
          refine cV (va_runV (C := RX9) (As := [.int x186]) (rest := []) ⟨hx, hb, hml, hown, hA⟩ (k_X9_fails l dC dI dA sz X Γ hU u135 h0 t_h0 x186   ) ⟨callB_of 1 hA (al_A wd_5_102) rfl rfl rfl (hA _ wd_1_7) (hA _ wd_5_99) (by decide +kernel) ⟨Nat.le_of_ble_eq_true rfl, Nat.le_of_ble_eq_true rfl⟩, hA _ wd_5_101, hA _ ws_43⟩ ⟨bl, recv_X9 hE hG t_h0, fun U hU9 hW9 => ⟨rfl, by rw [hU9]; exact hG, hE.go hS hU9 hW9⟩⟩ rfl rfl hl.1 rfl (lv_room (Nat.le_of_ble_eq_true rfl)) dX9_number_41 ⟨Nat.zero_le _, Nat.zero_le _⟩) hS (fun u188 H locs w189 hG hS => ?_)
          obtain ⟨hf190, w189⟩ := w189
          refine lv_aload_n hx hb dX9_number_44 rfl (lv_at hl 0 rfl) ?_
          refine get_X9_19 hx hb hA hown hE hG t_h0 wd_4_149 dX9_number_45 (fun x191 h192 => ?_)
          refine ty_if_eq (tgt := 53) hx hb dX9_number_48 (by decide) (fun c194 => ?_) (fun c194 => ?_)
          · skip
            refine lv_aload_n hx hb dX9_number_53 rfl (lv_at hl 0 rfl) ?_
            refine get_X9_18 hx hb hA hown hE hG t_h0 wd_4_148 dX9_number_54 (fun x195 h196 => ?_)
            have hk198 : u188 118 0 = u135 118 0 := hf190 118 0 (by decide) (by decide)
            refine lv_istore_n (lv' := [(3, .int x195), (0, .ref h0), (1, .int p1), (2, .int p2)]) hx hb dX9_number_57 rfl hl (by decide) rfl (fun ls hl => ?_)
            refine lv_aload_n hx hb dX9_number_58 rfl (lv_at hl 1 rfl) ?_
            have hk199 : u188 114 0 = u135 114 0 := hf190 114 0 (by decide) (by decide)
            have hk200 : u135 114 0 = g 114 0 := hf137 114 0 (by decide) (by decide)
            have hk201 : u188 115 0 = u135 115 0 := hf190 115 0 (by decide) (by decide)
            have hk202 : u135 115 0 = g 115 0 := hf137 115 0 (by decide) (by decide)
            refine cV (va_runV (C := RX9) (As := []) (rest := []) ⟨hx, hb, hml, hown, hA⟩ (k_X9_next l dC dI dA sz X Γ hU u188 h0 t_h0   (by omega)) ⟨callB_of 0 hA (al_A wd_5_74) rfl rfl rfl (hA _ wd_1_7) (hA _ wd_5_71) (by decide +kernel) ⟨Nat.le_of_ble_eq_true rfl, Nat.le_of_ble_eq_true rfl⟩, hA _ wd_5_73, hA _ ws_39⟩ ⟨bl, recv_X9 hE hG t_h0, fun U hU9 hW9 => ⟨rfl, by rw [hU9]; exact hG, hE.go hS hU9 hW9⟩⟩ rfl rfl hl.1 rfl (lv_room (Nat.le_of_ble_eq_true rfl)) dX9_number_59 ⟨Nat.zero_le _, Nat.zero_le _⟩) hS (fun u203 H locs w204 hG hS => ?_)
            obtain ⟨hf205, w204⟩ := w204
            refine lv_iload_n hx hb dX9_number_62 rfl (lv_at hl 0 rfl) ?_
            have hk206 : u203 119 0 = u188 119 0 := hf205 119 0 (by decide) (by decide) (by decide) (by decide)
            exact W.iret (v := x195) hx hb hr (fun t ht hW => ⟨⟨x195, u203, rfl, ⟨(fun c j h115 h116 h117 h118 h119 h120 => by rw [hf205 c j h115 h116 h117 h118, hf190 c j h119 h120, hf137 c j h119 h120]), (by omega)⟩, ok1 ht hG⟩, hS.F ht⟩) hS.2.2 dX9_number_63
          · skip
            refine ty_iconst hx hb (0) dX9_number_51 (by decide) (fun x207 h208 => ?_)
            have hk209 : u188 115 0 = u135 115 0 := hf190 115 0 (by decide) (by decide)
            have hk210 : u135 115 0 = g 115 0 := hf137 115 0 (by decide) (by decide)
            have hk211 : u188 116 0 = u135 116 0 := hf190 116 0 (by decide) (by decide)
            have hk212 : u135 116 0 = g 116 0 := hf137 116 0 (by decide) (by decide)
            exact W.iret (v := x207) hx hb hr (fun t ht hW => ⟨⟨x207, u188, rfl, ⟨(fun c j h115 h116 h117 h118 h119 h120 => by rw [hf190 c j h119 h120, hf137 c j h119 h120]), (by omega)⟩, ok1 ht hG⟩, hS.F ht⟩) hS.2.2 dX9_number_52
