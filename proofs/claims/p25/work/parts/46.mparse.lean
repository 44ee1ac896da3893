set_option maxHeartbeats 4000000 in
set_option maxRecDepth 100000 in
/-- WeekBankModel.see:  -/
theorem k_X9_see (l : Launch) (dC : Nat → ClassId) (dI : Nat → Nat → Nat) (dA : Nat → ClassId) (sz : Nat) (X : va_W) (Γ : ty_G) (hU : Un Γ) (g : gh) (h0 : Nat) (t_h0 : ty Γ h0 30) (p1 : Int32) (T : Nat → Int) (N9 : Nat) (hp : 0 ≤ p1.toInt ∧ g 114 0 ≤ 300) (hT : pz_t g = T) (hN : g 114 0 = (N9 : Int)) : Met l yX9_see (.code yX9_see cX9_see 2 (Option.some Jvm.ClassFile.FieldType.int) :: AL) ({ frames := 0, cells := 0, slots := 0, locals := 0 }) (PCx dC dI dA sz X Γ g [.ref h0, .int p1]) (va_Qi (fun (r : Int32) (u : gh) => u = g ∧ ((g 114 0 ≤ p1.toInt → r.toInt = 0) ∧ (p1.toInt < g 114 0 → r.toInt % 256 = T p1.toInt.toNat ∧ -128 ≤ r.toInt ∧ r.toInt ≤ 127))) (okb dC dI dA sz X Γ) (ty_A sz)) 0 0 (ty_A sz) := by
  refine Met.ofW (cc := cX9_see) (maxL := 2) (ret := (Option.some Jvm.ClassFile.FieldType.int)) (by decide) rfl ?_
  intro p e s m args below meth c s₁ B hml hv
  obtain ⟨rfl, hG, hE⟩ := hv
  have hx := B.exec
  have hb := B.bytes
  have hr := B.returns
  have hts := atoms_spec B.pre
  have hA : ∀ w ∈ AL, w.before _ s = true := fun w h => hts w (List.mem_cons_of_mem _ h)
  have hown : s.vm.findClass RX9 = some m.cls := findClass_of_methodNamed B.named
  have hlocks := B.notSynchronized
  have hS : va_S (ty_A sz) s.heap s.heap [] := va_S.rf
  have hl := lv_entry ([.ref h0, .int p1]) (n := 2) (Nat.le_of_ble_eq_true rfl)
  rw [lg_entry_eq]
  generalize (lg_sl ([.ref h0, .int p1]) ++ List.replicate (2 - (lg_sl ([.ref h0, .int p1])).length) Slot.unset).toArray = ls at hl ⊢
  have hl : lv_has ls 2 [(0, .ref h0), (1, .int p1)] := hl
  refine lv_iload_n hx hb dX9_see_0 rfl (lv_at hl 1 rfl) ?_
  refine lv_aload_n hx hb dX9_see_1 rfl (lv_at hl 0 rfl) ?_
  refine get_X9_14 hx hb hA hown hE hG t_h0 wd_4_144 dX9_see_2 (fun x1 h2 => ?_)
  refine ty_icmp_ge (tgt := 17) hx hb dX9_see_5 (by decide) (fun c4 => ?_) (fun c4 => ?_)
  · skip
    refine ty_iconst hx hb (0) dX9_see_17 (by decide) (fun x5 h6 => ?_)
    exact W.iret (v := x5) hx hb hr (fun t ht hW => ⟨⟨x5, g, rfl, ⟨rfl, (by omega)⟩, ok1 ht hG⟩, hS.F ht⟩) hS.2.2 dX9_see_18
  · skip
    refine lv_aload_n hx hb dX9_see_8 rfl (lv_at hl 0 rfl) ?_
    refine get_X9_13 hx hb hA hown hE hG t_h0 wd_4_143 dX9_see_9 (fun b7 (t_b7 : ty Γ b7 113) => ?_)
    refine lv_iload_n hx hb dX9_see_12 rfl (lv_at hl 1 rfl) ?_
    refine ald_mB hx hb hE hG 13 rfl (n := 300) rfl (lo := -128) (hi := 127) rfl rfl t_b7 (by omega) dX9_see_13 (fun j9 x8 h10 h11 h12 => ?_)
    obtain rfl : j9 = p1.toInt.toNat := by omega
    have h13 : x8.toInt % 256 = T p1.toInt.toNat := by rw [h11]; exact congrFun hT _
    clear h11
    refine lv_goto (tgt := 18) hx hb dX9_see_14 (by decide) ?_
    exact W.iret (v := x8) hx hb hr (fun t ht hW => ⟨⟨x8, g, rfl, ⟨rfl, (by omega)⟩, ok1 ht hG⟩, hS.F ht⟩) hS.2.2 dX9_see_18

set_option maxHeartbeats 4000000 in
set_option maxRecDepth 100000 in
/-- WeekBankModel.isSmall:  -/
theorem k_X9_isSmall (l : Launch) (dC : Nat → ClassId) (dI : Nat → Nat → Nat) (dA : Nat → ClassId) (sz : Nat) (X : va_W) (Γ : ty_G) (hU : Un Γ) (g : gh) (p0 : Int32) : Met l yX9_isSmall (.code yX9_isSmall cX9_isSmall 1 (Option.some Jvm.ClassFile.FieldType.boolean) :: AL) ({ frames := 0, cells := 0, slots := 0, locals := 0 }) (PCx dC dI dA sz X Γ g [.int p0]) (va_Qi (fun (r : Int32) (u : gh) => u = g ∧ (((97 ≤ p0.toInt ∧ p0.toInt ≤ 122 → r.toInt = 1) ∧ (¬ (97 ≤ p0.toInt ∧ p0.toInt ≤ 122) → r.toInt = 0)))) (okb dC dI dA sz X Γ) (ty_A sz)) 0 0 (ty_A sz) := by
  refine Met.ofW (cc := cX9_isSmall) (maxL := 1) (ret := (Option.some Jvm.ClassFile.FieldType.boolean)) (by decide) rfl ?_
  intro p e s m args below meth c s₁ B hml hv
  obtain ⟨rfl, hG, hE⟩ := hv
  have hx := B.exec
  have hb := B.bytes
  have hr := B.returns
  have hts := atoms_spec B.pre
  have hA : ∀ w ∈ AL, w.before _ s = true := fun w h => hts w (List.mem_cons_of_mem _ h)
  have hown : s.vm.findClass RX9 = some m.cls := findClass_of_methodNamed B.named
  have hlocks := B.notSynchronized
  have hS : va_S (ty_A sz) s.heap s.heap [] := va_S.rf
  have hl := lv_entry ([.int p0]) (n := 1) (Nat.le_of_ble_eq_true rfl)
  rw [lg_entry_eq]
  generalize (lg_sl ([.int p0]) ++ List.replicate (1 - (lg_sl ([.int p0])).length) Slot.unset).toArray = ls at hl ⊢
  have hl : lv_has ls 1 [(0, .int p0)] := hl
  refine lv_iload_n hx hb dX9_isSmall_0 rfl (lv_at hl 0 rfl) ?_
  refine ty_bipush hx hb (97) dX9_isSmall_1 (by decide) (fun x1 h2 => ?_)
  refine ty_icmp_lt (tgt := 16) hx hb dX9_isSmall_3 (by decide) (fun c3 => ?_) (fun c3 => ?_)
  · skip
    refine ty_iconst hx hb (0) dX9_isSmall_16 (by decide) (fun x4 h5 => ?_)
    exact W.zret (v := x4) hx hb hr (ty_nb (by omega)).1 (fun t ht hW => ⟨⟨x4, g, rfl, ⟨rfl, (by omega)⟩, ok1 ht hG⟩, hS.F ht⟩) hS.2.2 dX9_isSmall_17
  · skip
    refine lv_iload_n hx hb dX9_isSmall_6 rfl (lv_at hl 0 rfl) ?_
    refine ty_bipush hx hb (122) dX9_isSmall_7 (by decide) (fun x6 h7 => ?_)
    refine ty_icmp_gt (tgt := 16) hx hb dX9_isSmall_9 (by decide) (fun c8 => ?_) (fun c8 => ?_)
    · skip
      refine ty_iconst hx hb (0) dX9_isSmall_16 (by decide) (fun x9 h10 => ?_)
      exact W.zret (v := x9) hx hb hr (ty_nb (by omega)).1 (fun t ht hW => ⟨⟨x9, g, rfl, ⟨rfl, (by omega)⟩, ok1 ht hG⟩, hS.F ht⟩) hS.2.2 dX9_isSmall_17
    · skip
      refine ty_iconst hx hb (1) dX9_isSmall_12 (by decide) (fun x11 h12 => ?_)
      refine lv_goto (tgt := 17) hx hb dX9_isSmall_13 (by decide) ?_
      exact W.zret (v := x11) hx hb hr (ty_nb (by omega)).1 (fun t ht hW => ⟨⟨x11, g, rfl, ⟨rfl, (by omega)⟩, ok1 ht hG⟩, hS.F ht⟩) hS.2.2 dX9_isSmall_17

set_option maxHeartbeats 4000000 in
set_option maxRecDepth 100000 in
/-- WeekBankModel.isDigit:  -/
theorem k_X9_isDigit (l : Launch) (dC : Nat → ClassId) (dI : Nat → Nat → Nat) (dA : Nat → ClassId) (sz : Nat) (X : va_W) (Γ : ty_G) (hU : Un Γ) (g : gh) (p0 : Int32) : Met l yX9_isDigit (.code yX9_isDigit cX9_isDigit 1 (Option.some Jvm.ClassFile.FieldType.boolean) :: AL) ({ frames := 0, cells := 0, slots := 0, locals := 0 }) (PCx dC dI dA sz X Γ g [.int p0]) (va_Qi (fun (r : Int32) (u : gh) => u = g ∧ (((48 ≤ p0.toInt ∧ p0.toInt ≤ 57 → r.toInt = 1) ∧ (¬ (48 ≤ p0.toInt ∧ p0.toInt ≤ 57) → r.toInt = 0)))) (okb dC dI dA sz X Γ) (ty_A sz)) 0 0 (ty_A sz) := by
  refine Met.ofW (cc := cX9_isDigit) (maxL := 1) (ret := (Option.some Jvm.ClassFile.FieldType.boolean)) (by decide) rfl ?_
  intro p e s m args below meth c s₁ B hml hv
  obtain ⟨rfl, hG, hE⟩ := hv
  have hx := B.exec
  have hb := B.bytes
  have hr := B.returns
  have hts := atoms_spec B.pre
  have hA : ∀ w ∈ AL, w.before _ s = true := fun w h => hts w (List.mem_cons_of_mem _ h)
  have hown : s.vm.findClass RX9 = some m.cls := findClass_of_methodNamed B.named
  have hlocks := B.notSynchronized
  have hS : va_S (ty_A sz) s.heap s.heap [] := va_S.rf
  have hl := lv_entry ([.int p0]) (n := 1) (Nat.le_of_ble_eq_true rfl)
  rw [lg_entry_eq]
  generalize (lg_sl ([.int p0]) ++ List.replicate (1 - (lg_sl ([.int p0])).length) Slot.unset).toArray = ls at hl ⊢
  have hl : lv_has ls 1 [(0, .int p0)] := hl
  refine lv_iload_n hx hb dX9_isDigit_0 rfl (lv_at hl 0 rfl) ?_
  refine ty_bipush hx hb (48) dX9_isDigit_1 (by decide) (fun x1 h2 => ?_)
  refine ty_icmp_lt (tgt := 16) hx hb dX9_isDigit_3 (by decide) (fun c3 => ?_) (fun c3 => ?_)
  · skip
    refine ty_iconst hx hb (0) dX9_isDigit_16 (by decide) (fun x4 h5 => ?_)
    exact W.zret (v := x4) hx hb hr (ty_nb (by omega)).1 (fun t ht hW => ⟨⟨x4, g, rfl, ⟨rfl, (by omega)⟩, ok1 ht hG⟩, hS.F ht⟩) hS.2.2 dX9_isDigit_17
  · skip
    refine lv_iload_n hx hb dX9_isDigit_6 rfl (lv_at hl 0 rfl) ?_
    refine ty_bipush hx hb (57) dX9_isDigit_7 (by decide) (fun x6 h7 => ?_)
    refine ty_icmp_gt (tgt := 16) hx hb dX9_isDigit_9 (by decide) (fun c8 => ?_) (fun c8 => ?_)
    · skip
      refine ty_iconst hx hb (0) dX9_isDigit_16 (by decide) (fun x9 h10 => ?_)
      exact W.zret (v := x9) hx hb hr (ty_nb (by omega)).1 (fun t ht hW => ⟨⟨x9, g, rfl, ⟨rfl, (by omega)⟩, ok1 ht hG⟩, hS.F ht⟩) hS.2.2 dX9_isDigit_17
    · skip
      refine ty_iconst hx hb (1) dX9_isDigit_12 (by decide) (fun x11 h12 => ?_)
      refine lv_goto (tgt := 17) hx hb dX9_isDigit_13 (by decide) ?_
      exact W.zret (v := x11) hx hb hr (ty_nb (by omega)).1 (fun t ht hW => ⟨⟨x11, g, rfl, ⟨rfl, (by omega)⟩, ok1 ht hG⟩, hS.F ht⟩) hS.2.2 dX9_isDigit_17

set_option maxHeartbeats 4000000 in
set_option maxRecDepth 100000 in
/-- WeekBankModel.next:  -/
theorem k_X9_next (l : Launch) (dC : Nat → ClassId) (dI : Nat → Nat → Nat) (dA : Nat → ClassId) (sz : Nat) (X : va_W) (Γ : ty_G) (hU : Un Γ) (g : gh) (h0 : Nat) (t_h0 : ty Γ h0 30) (T : Nat → Int) (N9 : Nat) (hp : 0 ≤ g 115 0 ∧ g 115 0 ≤ g 114 0 ∧ g 114 0 ≤ 300) (hT : pz_t g = T) (hN : g 114 0 = (N9 : Int)) : Met l yX9_next (.code yX9_next cX9_next 2 (Option.none : Option Jvm.ClassFile.FieldType) :: AL) ({ frames := 1, cells := 0, slots := 0, locals := 21 }) (PCx dC dI dA sz X Γ g [.ref h0]) (va_Qv (fun (u : gh) => (∀ c j : Nat, c ≠ 115 → c ≠ 116 → c ≠ 117 → c ≠ 118 → u c j = g c j) ∧ ((0 ≤ u 116 0 ∧ u 116 0 ≤ u 115 0 ∧ u 115 0 ≤ g 114 0) ∧ (u 115 0 = u 115 0 ∧ u 116 0 = u 116 0 ∧ u 117 0 = u 117 0 ∧ u 118 0 = u 118 0 ∧ u 119 0 = u 119 0 ∧ u 120 0 = u 120 0)) ∧ (pz_m u = pz_nx T N9 (pz_m g))) (okb dC dI dA sz X Γ) (ty_A sz)) 0 0 (ty_A sz) := by
  refine Met.ofW (cc := cX9_next) (maxL := 2) (ret := (Option.none : Option Jvm.ClassFile.FieldType)) (by decide) rfl ?_
  intro p e s m args below meth c s₁ B hml hv
  obtain ⟨rfl, hG, hE⟩ := hv
  have hx := B.exec
  have hb := B.bytes
  have hr := B.returns
  have hts := atoms_spec B.pre
  have hA : ∀ w ∈ AL, w.before _ s = true := fun w h => hts w (List.mem_cons_of_mem _ h)
  have hown : s.vm.findClass RX9 = some m.cls := findClass_of_methodNamed B.named
  have hlocks := B.notSynchronized
  have hS : va_S (ty_A sz) s.heap s.heap [] := va_S.rf
  have hl := lv_entry ([.ref h0]) (n := 2) (Nat.le_of_ble_eq_true rfl)
  rw [lg_entry_eq]
  generalize (lg_sl ([.ref h0]) ++ List.replicate (2 - (lg_sl ([.ref h0])).length) Slot.unset).toArray = ls at hl ⊢
  have hl : lv_has ls 2 [(0, .ref h0)] := hl
  have L_0 : ∀ (n : Nat)  (g1 : gh) (H : Heap) (locs : List Loc) (ls : Array Slot), (g1 114 0 - g1 115 0 : Int) < n → g 115 0 ≤ g1 115 0 ∧ g1 115 0 ≤ g1 114 0 → (∀ c j : Nat, c ≠ 115 → g1 c j = g c j) → (pz_ru pz_bk T N9 (g1 115 0) = pz_ru pz_bk T N9 (g 115 0)) → ty_ok (dC, dI) vwCl Γ (TP dA Γ g1) sz X H → va_S (ty_A sz) s.heap H locs → lv_has ls 2 [(0, .ref h0)] → W p l e (headSpec (.code yX9_next cX9_next 2 (Option.none : Option Jvm.ClassFile.FieldType) :: AL) ({ frames := 1, cells := 0, slots := 0, locals := 21 })).room s m ([.ref h0] : List Value).toArray below meth c H locs 0 0 (MQ below (va_Qv (fun (u : gh) => (∀ c j : Nat, c ≠ 115 → c ≠ 116 → c ≠ 117 → c ≠ 118 → u c j = g c j) ∧ ((0 ≤ u 116 0 ∧ u 116 0 ≤ u 115 0 ∧ u 115 0 ≤ g 114 0) ∧ (u 115 0 = u 115 0 ∧ u 116 0 = u 116 0 ∧ u 117 0 = u 117 0 ∧ u 118 0 = u 118 0 ∧ u 119 0 = u 119 0 ∧ u 120 0 = u 120 0)) ∧ (pz_m u = pz_nx T N9 (pz_m g))) (okb dC dI dA sz X Γ) (ty_A sz)) ([.ref h0] : List Value).toArray s 0 0 (ty_A sz)) (F0 m 0 ls []) := by
    intro n
    induction n with
    | zero => intro g1 H locs ls hm hi0 hf2 hq0 hG hS hl; exfalso; omega
    | succ n ih_0 =>
      intro g1 H locs ls hm hi0 hf2 hq0 hG hS hl
      have hk3 : g1 114 0 = g 114 0 := hf2 114 0 (by decide)
      refine lv_aload_n hx hb dX9_next_0 rfl (lv_at hl 0 rfl) ?_
      refine get_X9_15 hx hb hA hown hE hG t_h0 wd_4_145 dX9_next_1 (fun x4 h5 => ?_)
      refine lv_aload_n hx hb dX9_next_4 rfl (lv_at hl 0 rfl) ?_
      refine get_X9_14 hx hb hA hown hE hG t_h0 wd_4_144 dX9_next_5 (fun x7 h8 => ?_)
      refine ty_icmp_ge (tgt := 52) hx hb dX9_next_8 (by decide) (fun c10 => ?_) (fun c10 => ?_)
      · skip
        have he9 : pz_ru pz_bk T N9 (g1 115 0) = g1 115 0 := pz_ru_end (by omega) (by omega)
        refine lv_aload_n hx hb dX9_next_52 rfl (lv_at hl 0 rfl) ?_
        refine lv_aload_n hx hb dX9_next_53 rfl (lv_at hl 0 rfl) ?_
        refine get_X9_15 hx hb hA hown hE hG t_h0 wd_4_145 dX9_next_54 (fun x11 h12 => ?_)
        refine put_X9_16 hx hb hA hown hE hG hS hU t_h0 wd_4_146 dX9_next_57 (fun H locs hG hS => ?_)
        refine lv_aload_n hx hb dX9_next_60 rfl (lv_at hl 0 rfl) ?_
        refine get_X9_15 hx hb hA hown hE hG t_h0 wd_4_145 dX9_next_61 (fun x14 h15 => ?_)
        replace h15 : x14.toInt = g1 115 0 := by rw [h15, gs_c _ _ _ _ (by decide)]
        refine lv_aload_n hx hb dX9_next_64 rfl (lv_at hl 0 rfl) ?_
        refine get_X9_14 hx hb hA hown hE hG t_h0 wd_4_144 dX9_next_65 (fun x17 h18 => ?_)
        replace h18 : x17.toInt = g1 114 0 := by rw [h18, gs_c _ _ _ _ (by decide)]
        refine ty_icmp_lt (tgt := 77) hx hb dX9_next_68 (by decide) (fun c20 => ?_) (fun c20 => ?_)
        · exfalso; omega
        · skip
          refine lv_aload_n hx hb dX9_next_71 rfl (lv_at hl 0 rfl) ?_
          refine ty_iconst hx hb (0) dX9_next_72 (by decide) (fun x21 h22 => ?_)
          refine put_X9_17 hx hb hA hown hE hG hS hU t_h0 wd_4_147 dX9_next_73 (fun H locs hG hS => ?_)
          have e23 : (gs (gs g1 116 0 x11.toInt) 117 0 x21.toInt) 115 0 = g1 115 0 := by rw [gs_c _ _ _ _ (by decide), gs_c _ _ _ _ (by decide)]
          have e24 : (gs (gs g1 116 0 x11.toInt) 117 0 x21.toInt) 116 0 = x11.toInt := by rw [gs_c _ _ _ _ (by decide), gs_self]
          have e25 : (gs (gs g1 116 0 x11.toInt) 117 0 x21.toInt) 117 0 = x21.toInt := by rw [gs_self]
          have hk26 : g1 118 0 = g 118 0 := hf2 118 0 (by decide)
          have e27 : (gs (gs g1 116 0 x11.toInt) 117 0 x21.toInt) 118 0 = g1 118 0 := by rw [gs_c _ _ _ _ (by decide), gs_c _ _ _ _ (by decide)]
          have hk28 : g1 119 0 = g 119 0 := hf2 119 0 (by decide)
          have e29 : (gs (gs g1 116 0 x11.toInt) 117 0 x21.toInt) 119 0 = g1 119 0 := by rw [gs_c _ _ _ _ (by decide), gs_c _ _ _ _ (by decide)]
          have hk30 : g1 120 0 = g 120 0 := hf2 120 0 (by decide)
          have e31 : (gs (gs g1 116 0 x11.toInt) 117 0 x21.toInt) 120 0 = g1 120 0 := by rw [gs_c _ _ _ _ (by decide), gs_c _ _ _ _ (by decide)]
          exact W.vret hx hb hr (fun t ht hW => ⟨⟨(gs (gs g1 116 0 x11.toInt) 117 0 x21.toInt), rfl, ⟨(fun c j h115 h116 h117 h118 => by rw [gs_c _ _ _ _ h117, gs_c _ _ _ _ h116, hf2 c j h115]), (by omega), (by (rw [pz_mx_e (x := pz_m g) (s := g1 115 0) (show g1 115 0 = pz_ru pz_bk T N9 (g 115 0) by omega) (by omega)]; exact pz_mk (show (gs (gs g1 116 0 x11.toInt) 117 0 x21.toInt) 115 0 = g1 115 0 by omega) (show (gs (gs g1 116 0 x11.toInt) 117 0 x21.toInt) 116 0 = g1 115 0 by omega) (show pz_s ((gs (gs g1 116 0 x11.toInt) 117 0 x21.toInt) 117 0) = 0 from pz_s0.mpr (by omega)) (show (gs (gs g1 116 0 x11.toInt) 117 0 x21.toInt) 118 0 = g 118 0 by omega) (show (gs (gs g1 116 0 x11.toInt) 117 0 x21.toInt) 119 0 = g 119 0 by omega) (show (if (gs (gs g1 116 0 x11.toInt) 117 0 x21.toInt) 119 0 = 0 then (-1 : Int) else (gs (gs g1 116 0 x11.toInt) 117 0 x21.toInt) 120 0) = (if g 119 0 = 0 then -1 else g 120 0) by rw [show (gs (gs g1 116 0 x11.toInt) 117 0 x21.toInt) 119 0 = g 119 0 by omega, show (gs (gs g1 116 0 x11.toInt) 117 0 x21.toInt) 120 0 = g 120 0 by omega])))⟩, ok1 ht hG⟩, hS.F ht⟩) hS.2.2 dX9_next_76
      · skip
        refine lv_aload_n hx hb dX9_next_11 rfl (lv_at hl 0 rfl) ?_
        refine get_X9_13 hx hb hA hown hE hG t_h0 wd_4_143 dX9_next_12 (fun b32 (t_b32 : ty Γ b32 113) => ?_)
        refine lv_aload_n hx hb dX9_next_15 rfl (lv_at hl 0 rfl) ?_
        refine get_X9_15 hx hb hA hown hE hG t_h0 wd_4_145 dX9_next_16 (fun x33 h34 => ?_)
        refine ald_mB hx hb hE hG 13 rfl (n := 300) rfl (lo := -128) (hi := 127) rfl rfl t_b32 (by omega) dX9_next_19 (fun j37 x36 h38 h39 h40 => ?_)
        obtain rfl : j37 = x33.toInt.toNat := by omega
        have h41 : x36.toInt % 256 = T x33.toInt.toNat := by rw [h39, hf2 113 x33.toInt.toNat (by decide)]; exact congrFun hT _
        rw [show x33.toInt = g1 115 0 by omega] at h41
        clear h39
        refine ty_bipush hx hb (32) dX9_next_20 (by decide) (fun x42 h43 => ?_)
        refine ty_icmp_eq (tgt := 39) hx hb dX9_next_22 (by decide) (fun c44 => ?_) (fun c44 => ?_)
        · skip
          refine lv_aload_n hx hb dX9_next_39 rfl (lv_at hl 0 rfl) ?_
          refine lv_dup hx hb dX9_next_40 rfl ?_
          refine get_X9_15 hx hb hA hown hE hG t_h0 wd_4_145 dX9_next_41 (fun x45 h46 => ?_)
          refine ty_iconst hx hb (1) dX9_next_44 (by decide) (fun x48 h49 => ?_)
          refine ty_iadd hx hb dX9_next_45 (fun x50 h51 => ?_)
          try have h52 : x50.toInt = x45.toInt + x48.toInt := ty_add h51 (by omega) (by omega)
          refine put_X9_15 hx hb hA hown hE hG hS hU t_h0 wd_4_145 dX9_next_46 (fun H locs hG hS => ?_)
          refine lv_goto (tgt := 0) hx hb dX9_next_49 (by decide) ?_
          have e53 : (gs g1 115 0 x50.toInt) 114 0 = g1 114 0 := by rw [gs_c _ _ _ _ (by decide)]
          have e54 : (gs g1 115 0 x50.toInt) 115 0 = x50.toInt := by rw [gs_self]
          exact ih_0 (gs g1 115 0 x50.toInt) _ _ ls (by omega) (by omega) (fun c j h115 => by rw [gs_c _ _ _ _ h115, hf2 c j h115]) (by rw [gs_self, show x50.toInt = g1 115 0 + 1 by omega, ← pz_ru_go (p := pz_bk) (t := T) (n := N9) (a := g1 115 0) (by omega) (by omega) (pz_bkt (by omega))]; exact hq0) hG hS (lv_sub hl [0] rfl)
        · skip
          refine lv_aload_n hx hb dX9_next_25 rfl (lv_at hl 0 rfl) ?_
          refine get_X9_13 hx hb hA hown hE hG t_h0 wd_4_143 dX9_next_26 (fun b55 (t_b55 : ty Γ b55 113) => ?_)
          refine lv_aload_n hx hb dX9_next_29 rfl (lv_at hl 0 rfl) ?_
          refine get_X9_15 hx hb hA hown hE hG t_h0 wd_4_145 dX9_next_30 (fun x56 h57 => ?_)
          refine ald_mB hx hb hE hG 13 rfl (n := 300) rfl (lo := -128) (hi := 127) rfl rfl t_b55 (by omega) dX9_next_33 (fun j60 x59 h61 h62 h63 => ?_)
          obtain rfl : j60 = x56.toInt.toNat := by omega
          have h64 : x59.toInt % 256 = T x56.toInt.toNat := by rw [h62, hf2 113 x56.toInt.toNat (by decide)]; exact congrFun hT _
          rw [show x56.toInt = g1 115 0 by omega] at h64
          clear h62
          refine ty_bipush hx hb (10) dX9_next_34 (by decide) (fun x65 h66 => ?_)
          refine ty_icmp_ne (tgt := 52) hx hb dX9_next_36 (by decide) (fun c67 => ?_) (fun c67 => ?_)
          · skip
            have he9 : pz_ru pz_bk T N9 (g1 115 0) = g1 115 0 := pz_ru_no (by omega) (pz_bkf (by omega))
            refine lv_aload_n hx hb dX9_next_52 rfl (lv_at hl 0 rfl) ?_
            refine lv_aload_n hx hb dX9_next_53 rfl (lv_at hl 0 rfl) ?_
            refine get_X9_15 hx hb hA hown hE hG t_h0 wd_4_145 dX9_next_54 (fun x68 h69 => ?_)
            refine put_X9_16 hx hb hA hown hE hG hS hU t_h0 wd_4_146 dX9_next_57 (fun H locs hG hS => ?_)
            refine lv_aload_n hx hb dX9_next_60 rfl (lv_at hl 0 rfl) ?_
            refine get_X9_15 hx hb hA hown hE hG t_h0 wd_4_145 dX9_next_61 (fun x71 h72 => ?_)
            replace h72 : x71.toInt = g1 115 0 := by rw [h72, gs_c _ _ _ _ (by decide)]
            refine lv_aload_n hx hb dX9_next_64 rfl (lv_at hl 0 rfl) ?_
            refine get_X9_14 hx hb hA hown hE hG t_h0 wd_4_144 dX9_next_65 (fun x74 h75 => ?_)
            replace h75 : x74.toInt = g1 114 0 := by rw [h75, gs_c _ _ _ _ (by decide)]
            refine ty_icmp_lt (tgt := 77) hx hb dX9_next_68 (by decide) (fun c77 => ?_) (fun c77 => ?_)
            · skip
              refine lv_aload_n hx hb dX9_next_77 rfl (lv_at hl 0 rfl) ?_
              refine get_X9_13 hx hb hA hown hE hG t_h0 wd_4_143 dX9_next_78 (fun b78 (t_b78 : ty Γ b78 113) => ?_)
              refine lv_aload_n hx hb dX9_next_81 rfl (lv_at hl 0 rfl) ?_
              refine get_X9_15 hx hb hA hown hE hG t_h0 wd_4_145 dX9_next_82 (fun x79 h80 => ?_)
              replace h80 : x79.toInt = g1 115 0 := by rw [h80, gs_c _ _ _ _ (by decide)]
              refine ald_mB hx hb hE hG 13 rfl (n := 300) rfl (lo := -128) (hi := 127) rfl rfl t_b78 (by omega) dX9_next_85 (fun j83 x82 h84 h85 h86 => ?_)
              obtain rfl : j83 = x79.toInt.toNat := by omega
              have h87 : x82.toInt % 256 = T x79.toInt.toNat := by rw [h85, gs_c _ _ _ _ (by decide), hf2 113 x79.toInt.toNat (by decide)]; exact congrFun hT _
              rw [show x79.toInt = g1 115 0 by omega] at h87
              clear h85
              refine lv_istore_n (lv' := [(1, .int x82), (0, .ref h0)]) hx hb dX9_next_86 rfl hl (by decide) rfl (fun ls hl => ?_)
              refine lv_aload_n hx hb dX9_next_87 rfl (lv_at hl 1 rfl) ?_
              refine lv_dup hx hb dX9_next_88 rfl ?_
              refine get_X9_15 hx hb hA hown hE hG t_h0 wd_4_145 dX9_next_89 (fun x88 h89 => ?_)
              replace h89 : x88.toInt = g1 115 0 := by rw [h89, gs_c _ _ _ _ (by decide)]
              refine ty_iconst hx hb (1) dX9_next_92 (by decide) (fun x91 h92 => ?_)
              refine ty_iadd hx hb dX9_next_93 (fun x93 h94 => ?_)
              try have h95 : x93.toInt = x88.toInt + x91.toInt := ty_add h94 (by omega) (by omega)
              refine put_X9_15 hx hb hA hown hE hG hS hU t_h0 wd_4_145 dX9_next_94 (fun H locs hG hS => ?_)
              refine lv_iload_n hx hb dX9_next_97 rfl (lv_at hl 0 rfl) ?_
              refine cI (va_runS (As := [.int x82]) (rest := []) ⟨hx, hb, hml, hown, hA⟩ (k_X9_isSmall l dC dI dA sz X Γ hU (gs (gs g1 116 0 x68.toInt) 115 0 x93.toInt) x82   ) ⟨callB_of 1 hA (al_A wd_5_77) rfl rfl rfl (hA _ wd_1_7) (hA _ wd_5_75) (by decide +kernel) ⟨Nat.le_of_ble_eq_true rfl, Nat.le_of_ble_eq_true rfl⟩, hA _ wd_5_76⟩ ⟨bl, fun U hU9 hW9 => ⟨rfl, by rw [hU9]; exact hG, hE.go hS hU9 hW9⟩⟩ rfl rfl hl.1 rfl (lv_room (Nat.le_of_ble_eq_true rfl)) dX9_next_98 ⟨Nat.zero_le _, Nat.zero_le _⟩) hS (fun x98 u96 H locs w97 hG hS => ?_)
              obtain ⟨eu99, w97⟩ := w97
              rw [eu99] at hG
              rcases pz_or w97 with w97 | w97
              · skip
                refine ty_if_eq (tgt := 139) hx hb dX9_next_101 (by decide) (fun c100 => ?_) (fun c100 => ?_)
                · exfalso; omega
                · skip
                  have e102 : (gs (gs g1 116 0 x68.toInt) 115 0 x93.toInt) 114 0 = g1 114 0 := by rw [gs_c _ _ _ _ (by decide), gs_c _ _ _ _ (by decide)]
                  have e103 : (gs (gs g1 116 0 x68.toInt) 115 0 x93.toInt) 115 0 = x93.toInt := by rw [gs_self]
                  have e104 : (gs (gs g1 116 0 x68.toInt) 115 0 x93.toInt) 116 0 = x68.toInt := by rw [gs_c _ _ _ _ (by decide), gs_self]
                  have L_104 : ∀ (n : Nat)  (g101 : gh) (H : Heap) (locs : List Loc) (ls : Array Slot), (g101 114 0 - g101 115 0 : Int) < n → 0 ≤ (gs (gs g1 116 0 x68.toInt) 115 0 x93.toInt) 115 0 ∧ (gs (gs g1 116 0 x68.toInt) 115 0 x93.toInt) 116 0 ≤ (gs (gs g1 116 0 x68.toInt) 115 0 x93.toInt) 115 0 ∧ (gs (gs g1 116 0 x68.toInt) 115 0 x93.toInt) 115 0 ≤ g101 115 0 ∧ g101 115 0 ≤ g101 114 0 → (∀ c j : Nat, c ≠ 115 → g101 c j = (gs (gs g1 116 0 x68.toInt) 115 0 x93.toInt) c j) → (pz_ru pz_lc T N9 (g101 115 0) = pz_ru pz_lc T N9 ((gs (gs g1 116 0 x68.toInt) 115 0 x93.toInt) 115 0)) → ty_ok (dC, dI) vwCl Γ (TP dA Γ g101) sz X H → va_S (ty_A sz) s.heap H locs → lv_has ls 2 [(1, .int x82), (0, .ref h0)] → W p l e (headSpec (.code yX9_next cX9_next 2 (Option.none : Option Jvm.ClassFile.FieldType) :: AL) ({ frames := 1, cells := 0, slots := 0, locals := 21 })).room s m ([.ref h0] : List Value).toArray below meth c H locs 0 0 (MQ below (va_Qv (fun (u : gh) => (∀ c j : Nat, c ≠ 115 → c ≠ 116 → c ≠ 117 → c ≠ 118 → u c j = g c j) ∧ ((0 ≤ u 116 0 ∧ u 116 0 ≤ u 115 0 ∧ u 115 0 ≤ g 114 0) ∧ (u 115 0 = u 115 0 ∧ u 116 0 = u 116 0 ∧ u 117 0 = u 117 0 ∧ u 118 0 = u 118 0 ∧ u 119 0 = u 119 0 ∧ u 120 0 = u 120 0)) ∧ (pz_m u = pz_nx T N9 (pz_m g))) (okb dC dI dA sz X Γ) (ty_A sz)) ([.ref h0] : List Value).toArray s 0 0 (ty_A sz)) (F0 m 104 ls []) := by
                    intro n
                    induction n with
                    | zero => intro g101 H locs ls hm hi0 hf105 hq0 hG hS hl; exfalso; omega
                    | succ n ih_104 =>
                      intro g101 H locs ls hm hi0 hf105 hq0 hG hS hl
                      have hk106 : g101 114 0 = (gs (gs g1 116 0 x68.toInt) 115 0 x93.toInt) 114 0 := hf105 114 0 (by decide)
                      replace hk106 : g101 114 0 = g1 114 0 := by rw [hk106, gs_c _ _ _ _ (by decide), gs_c _ _ _ _ (by decide)]
                      refine lv_aload_n hx hb dX9_next_104 rfl (lv_at hl 1 rfl) ?_
                      refine lv_aload_n hx hb dX9_next_105 rfl (lv_at hl 1 rfl) ?_
                      refine get_X9_15 hx hb hA hown hE hG t_h0 wd_4_145 dX9_next_106 (fun x107 h108 => ?_)
                      refine cI (va_runV (C := RX9) (As := [.int x107]) (rest := []) ⟨hx, hb, hml, hown, hA⟩ (k_X9_see l dC dI dA sz X Γ hU g101 h0 t_h0 x107 T N9  (by omega) ((funext fun j => show g101 113 j % 256 = g 113 j % 256 by rw [hf105 113 j (by decide), gs_c _ _ _ _ (by decide), gs_c _ _ _ _ (by decide), hf2 113 j (by decide)]).trans hT) (by omega)) ⟨callB_of 1 hA (al_A wd_5_81) rfl rfl rfl (hA _ wd_1_7) (hA _ wd_5_78) (by decide +kernel) ⟨Nat.le_of_ble_eq_true rfl, Nat.le_of_ble_eq_true rfl⟩, hA _ wd_5_80, hA _ ws_40⟩ ⟨bl, recv_X9 hE hG t_h0, fun U hU9 hW9 => ⟨rfl, by rw [hU9]; exact hG, hE.go hS hU9 hW9⟩⟩ rfl rfl hl.1 rfl (lv_room (Nat.le_of_ble_eq_true rfl)) dX9_next_109 ⟨Nat.zero_le _, Nat.zero_le _⟩) hS (fun x112 u110 H locs w111 hG hS => ?_)
                      obtain ⟨eu113, w111⟩ := w111
                      rw [eu113] at hG
                      rw [show x107.toInt = g101 115 0 by omega] at w111
                      refine cI (va_runS (As := [.int x112]) (rest := []) ⟨hx, hb, hml, hown, hA⟩ (k_X9_isSmall l dC dI dA sz X Γ hU g101 x112   ) ⟨callB_of 1 hA (al_A wd_5_77) rfl rfl rfl (hA _ wd_1_7) (hA _ wd_5_75) (by decide +kernel) ⟨Nat.le_of_ble_eq_true rfl, Nat.le_of_ble_eq_true rfl⟩, hA _ wd_5_76⟩ ⟨bl, fun U hU9 hW9 => ⟨rfl, by rw [hU9]; exact hG, hE.go hS hU9 hW9⟩⟩ rfl rfl hl.1 rfl (lv_room (Nat.le_of_ble_eq_true rfl)) dX9_next_112 ⟨Nat.zero_le _, Nat.zero_le _⟩) hS (fun x116 u114 H locs w115 hG hS => ?_)
                      obtain ⟨eu117, w115⟩ := w115
                      rw [eu117] at hG
                      rcases pz_or w115 with w115 | w115
                      · skip
                        refine ty_if_eq (tgt := 131) hx hb dX9_next_115 (by decide) (fun c118 => ?_) (fun c118 => ?_)
                        · exfalso; omega
                        · skip
                          refine lv_aload_n hx hb dX9_next_118 rfl (lv_at hl 1 rfl) ?_
                          refine lv_dup hx hb dX9_next_119 rfl ?_
                          refine get_X9_15 hx hb hA hown hE hG t_h0 wd_4_145 dX9_next_120 (fun x119 h120 => ?_)
                          refine ty_iconst hx hb (1) dX9_next_123 (by decide) (fun x122 h123 => ?_)
                          refine ty_iadd hx hb dX9_next_124 (fun x124 h125 => ?_)
                          try have h126 : x124.toInt = x119.toInt + x122.toInt := ty_add h125 (by omega) (by omega)
                          refine put_X9_15 hx hb hA hown hE hG hS hU t_h0 wd_4_145 dX9_next_125 (fun H locs hG hS => ?_)
                          refine lv_goto (tgt := 104) hx hb dX9_next_128 (by decide) ?_
                          have e127 : (gs g101 115 0 x124.toInt) 114 0 = g101 114 0 := by rw [gs_c _ _ _ _ (by decide)]
                          have e128 : (gs g101 115 0 x124.toInt) 115 0 = x124.toInt := by rw [gs_self]
                          exact ih_104 (gs g101 115 0 x124.toInt) _ _ ls (by omega) (by omega) (fun c j h115 => by rw [gs_c _ _ _ _ h115, hf105 c j h115]) (by rw [gs_self, show x124.toInt = g101 115 0 + 1 by omega, ← pz_ru_go (p := pz_lc) (t := T) (n := N9) (a := g101 115 0) (by omega) (by omega) (pz_lct (by omega))]; exact hq0) hG hS (lv_sub hl [0, 1] rfl)
                      · skip
                        refine ty_if_eq (tgt := 131) hx hb dX9_next_115 (by decide) (fun c129 => ?_) (fun c129 => ?_)
                        · skip
                          have hx9 : pz_ru pz_lc T N9 (g101 115 0) = g101 115 0 := by by_cases h9 : g101 115 0 < (N9 : Int); exact pz_ru_no (by omega) (pz_lcf (by omega)); exact pz_ru_end (by omega) (by omega)
                          have hg9 : (gs (gs g1 116 0 x68.toInt) 115 0 x93.toInt) 115 0 = g1 115 0 + 1 := by rw [show (gs (gs g1 116 0 x68.toInt) 115 0 x93.toInt) 115 0 = x93.toInt by simp [gs]]; omega
                          have hy9 : pz_ru pz_lc T N9 (g1 115 0) = pz_ru pz_lc T N9 ((gs (gs g1 116 0 x68.toInt) 115 0 x93.toInt) 115 0) := by rw [hg9]; exact pz_ru_go (by omega) (by omega) (pz_lct (by omega))
                          refine lv_aload_n hx hb dX9_next_131 rfl (lv_at hl 1 rfl) ?_
                          refine ty_iconst hx hb (3) dX9_next_132 (by decide) (fun x130 h131 => ?_)
                          refine put_X9_17 hx hb hA hown hE hG hS hU t_h0 wd_4_147 dX9_next_133 (fun H locs hG hS => ?_)
                          refine lv_goto (tgt := 257) hx hb dX9_next_136 (by decide) ?_
                          have e132 : (gs g101 117 0 x130.toInt) 115 0 = g101 115 0 := by rw [gs_c _ _ _ _ (by decide)]
                          have hk133 : g101 116 0 = (gs (gs g1 116 0 x68.toInt) 115 0 x93.toInt) 116 0 := hf105 116 0 (by decide)
                          replace hk133 : g101 116 0 = x68.toInt := by rw [hk133, gs_c _ _ _ _ (by decide), gs_self]
                          have e134 : (gs g101 117 0 x130.toInt) 116 0 = g101 116 0 := by rw [gs_c _ _ _ _ (by decide)]
                          have e135 : (gs g101 117 0 x130.toInt) 117 0 = x130.toInt := by rw [gs_self]
                          have hk136 : g101 118 0 = (gs (gs g1 116 0 x68.toInt) 115 0 x93.toInt) 118 0 := hf105 118 0 (by decide)
                          replace hk136 : g101 118 0 = g1 118 0 := by rw [hk136, gs_c _ _ _ _ (by decide), gs_c _ _ _ _ (by decide)]
                          have hk137 : g1 118 0 = g 118 0 := hf2 118 0 (by decide)
                          have e138 : (gs g101 117 0 x130.toInt) 118 0 = g101 118 0 := by rw [gs_c _ _ _ _ (by decide)]
                          have hk139 : g101 119 0 = (gs (gs g1 116 0 x68.toInt) 115 0 x93.toInt) 119 0 := hf105 119 0 (by decide)
                          replace hk139 : g101 119 0 = g1 119 0 := by rw [hk139, gs_c _ _ _ _ (by decide), gs_c _ _ _ _ (by decide)]
                          have hk140 : g1 119 0 = g 119 0 := hf2 119 0 (by decide)
                          have e141 : (gs g101 117 0 x130.toInt) 119 0 = g101 119 0 := by rw [gs_c _ _ _ _ (by decide)]
                          have hk142 : g101 120 0 = (gs (gs g1 116 0 x68.toInt) 115 0 x93.toInt) 120 0 := hf105 120 0 (by decide)
                          replace hk142 : g101 120 0 = g1 120 0 := by rw [hk142, gs_c _ _ _ _ (by decide), gs_c _ _ _ _ (by decide)]
                          have hk143 : g1 120 0 = g 120 0 := hf2 120 0 (by decide)
                          have e144 : (gs g101 117 0 x130.toInt) 120 0 = g101 120 0 := by rw [gs_c _ _ _ _ (by decide)]
                          exact W.vret hx hb hr (fun t ht hW => ⟨⟨(gs g101 117 0 x130.toInt), rfl, ⟨(fun c j h115 h116 h117 h118 => by rw [gs_c _ _ _ _ h117, hf105 c j h115, gs_c _ _ _ _ h115, gs_c _ _ _ _ h116, hf2 c j h115]), (by omega), (by (rw [pz_mx_l (x := pz_m g) (s := g1 115 0) (e := (gs g101 117 0 x130.toInt) 115 0) (show g1 115 0 = pz_ru pz_bk T N9 (g 115 0) by omega) (by omega) (by omega) (by omega)]; exact pz_mk rfl (show (gs g101 117 0 x130.toInt) 116 0 = g1 115 0 by omega) (show pz_s ((gs g101 117 0 x130.toInt) 117 0) = 1 from pz_s1.mpr (by omega)) (show (gs g101 117 0 x130.toInt) 118 0 = g 118 0 by omega) (show (gs g101 117 0 x130.toInt) 119 0 = g 119 0 by omega) (show (if (gs g101 117 0 x130.toInt) 119 0 = 0 then (-1 : Int) else (gs g101 117 0 x130.toInt) 120 0) = (if g 119 0 = 0 then -1 else g 120 0) by rw [show (gs g101 117 0 x130.toInt) 119 0 = g 119 0 by omega, show (gs g101 117 0 x130.toInt) 120 0 = g 120 0 by omega])))⟩, ok1 ht hG⟩, hS.F ht⟩) hS.2.2 dX9_next_257
                        · exfalso; omega
                  have e145 : (gs (gs g1 116 0 x68.toInt) 115 0 x93.toInt) 114 0 = g1 114 0 := by rw [gs_c _ _ _ _ (by decide), gs_c _ _ _ _ (by decide)]
                  have e146 : (gs (gs g1 116 0 x68.toInt) 115 0 x93.toInt) 115 0 = x93.toInt := by rw [gs_self]
                  exact L_104 (((gs (gs g1 116 0 x68.toInt) 115 0 x93.toInt) 114 0 - (gs (gs g1 116 0 x68.toInt) 115 0 x93.toInt) 115 0) + 1).toNat (gs (gs g1 116 0 x68.toInt) 115 0 x93.toInt) _ _ ls (by omega) (by omega) (fun c j _ => rfl) (rfl) hG hS (lv_sub hl [0, 1] rfl)
              · skip
                refine ty_if_eq (tgt := 139) hx hb dX9_next_101 (by decide) (fun c147 => ?_) (fun c147 => ?_)
                · skip
                  refine lv_iload_n hx hb dX9_next_139 rfl (lv_at hl 0 rfl) ?_
                  refine cI (va_runS (As := [.int x82]) (rest := []) ⟨hx, hb, hml, hown, hA⟩ (k_X9_isDigit l dC dI dA sz X Γ hU (gs (gs g1 116 0 x68.toInt) 115 0 x93.toInt) x82   ) ⟨callB_of 1 hA (al_A wd_5_84) rfl rfl rfl (hA _ wd_1_7) (hA _ wd_5_82) (by decide +kernel) ⟨Nat.le_of_ble_eq_true rfl, Nat.le_of_ble_eq_true rfl⟩, hA _ wd_5_83⟩ ⟨bl, fun U hU9 hW9 => ⟨rfl, by rw [hU9]; exact hG, hE.go hS hU9 hW9⟩⟩ rfl rfl hl.1 rfl (lv_room (Nat.le_of_ble_eq_true rfl)) dX9_next_140 ⟨Nat.zero_le _, Nat.zero_le _⟩) hS (fun x150 u148 H locs w149 hG hS => ?_)
                  obtain ⟨eu151, w149⟩ := w149
                  rw [eu151] at hG
                  rcases pz_or w149 with w149 | w149
                  · skip
                    refine ty_if_eq (tgt := 242) hx hb dX9_next_143 (by decide) (fun c152 => ?_) (fun c152 => ?_)
                    · exfalso; omega
                    · skip
                      refine lv_aload_n hx hb dX9_next_146 rfl (lv_at hl 1 rfl) ?_
                      refine lv_iload_n hx hb dX9_next_147 rfl (lv_at hl 0 rfl) ?_
                      refine ty_bipush hx hb (48) dX9_next_148 (by decide) (fun x153 h154 => ?_)
                      refine ty_isub hx hb dX9_next_150 (fun x155 h156 => ?_)
                      try have h157 : x155.toInt = x82.toInt - x153.toInt := ty_sub h156 (by omega) (by omega)
                      refine put_X9_18 hx hb hA hown hE hG hS hU t_h0 wd_4_148 dX9_next_151 (fun H locs hG hS => ?_)
                      have e159 : (gs (gs (gs g1 116 0 x68.toInt) 115 0 x93.toInt) 118 0 x155.toInt) 114 0 = g1 114 0 := by rw [gs_c _ _ _ _ (by decide), gs_c _ _ _ _ (by decide), gs_c _ _ _ _ (by decide)]
                      have e160 : (gs (gs (gs g1 116 0 x68.toInt) 115 0 x93.toInt) 118 0 x155.toInt) 115 0 = x93.toInt := by rw [gs_c _ _ _ _ (by decide), gs_self]
                      have e161 : (gs (gs (gs g1 116 0 x68.toInt) 115 0 x93.toInt) 118 0 x155.toInt) 116 0 = x68.toInt := by rw [gs_c _ _ _ _ (by decide), gs_c _ _ _ _ (by decide), gs_self]
                      have L_154 : ∀ (n : Nat)  (g158 : gh) (H : Heap) (locs : List Loc) (ls : Array Slot), (g158 114 0 - g158 115 0 : Int) < n → 0 ≤ (gs (gs (gs g1 116 0 x68.toInt) 115 0 x93.toInt) 118 0 x155.toInt) 115 0 ∧ (gs (gs (gs g1 116 0 x68.toInt) 115 0 x93.toInt) 118 0 x155.toInt) 116 0 ≤ (gs (gs (gs g1 116 0 x68.toInt) 115 0 x93.toInt) 118 0 x155.toInt) 115 0 ∧ (gs (gs (gs g1 116 0 x68.toInt) 115 0 x93.toInt) 118 0 x155.toInt) 115 0 ≤ g158 115 0 ∧ g158 115 0 ≤ g158 114 0 → (∀ c j : Nat, c ≠ 115 → c ≠ 118 → g158 c j = (gs (gs (gs g1 116 0 x68.toInt) 115 0 x93.toInt) 118 0 x155.toInt) c j) → (pz_ru pz_dg T N9 (g158 115 0) = pz_ru pz_dg T N9 ((gs (gs (gs g1 116 0 x68.toInt) 115 0 x93.toInt) 118 0 x155.toInt) 115 0)) → (pz_vb (g158 115 0 - g1 115 0) (g158 118 0)) → (g158 118 0 = pz_di T (g1 115 0) (g158 115 0)) → ty_ok (dC, dI) vwCl Γ (TP dA Γ g158) sz X H → va_S (ty_A sz) s.heap H locs → lv_has ls 2 [(1, .int x82), (0, .ref h0)] → W p l e (headSpec (.code yX9_next cX9_next 2 (Option.none : Option Jvm.ClassFile.FieldType) :: AL) ({ frames := 1, cells := 0, slots := 0, locals := 21 })).room s m ([.ref h0] : List Value).toArray below meth c H locs 0 0 (MQ below (va_Qv (fun (u : gh) => (∀ c j : Nat, c ≠ 115 → c ≠ 116 → c ≠ 117 → c ≠ 118 → u c j = g c j) ∧ ((0 ≤ u 116 0 ∧ u 116 0 ≤ u 115 0 ∧ u 115 0 ≤ g 114 0) ∧ (u 115 0 = u 115 0 ∧ u 116 0 = u 116 0 ∧ u 117 0 = u 117 0 ∧ u 118 0 = u 118 0 ∧ u 119 0 = u 119 0 ∧ u 120 0 = u 120 0)) ∧ (pz_m u = pz_nx T N9 (pz_m g))) (okb dC dI dA sz X Γ) (ty_A sz)) ([.ref h0] : List Value).toArray s 0 0 (ty_A sz)) (F0 m 154 ls []) := by
                        intro n
                        induction n with
                        | zero => intro g158 H locs ls hm hi0 hf162 hq0 hq1 hq2 hG hS hl; exfalso; omega
                        | succ n ih_154 =>
                          intro g158 H locs ls hm hi0 hf162 hq0 hq1 hq2 hG hS hl
                          have hk163 : g158 114 0 = (gs (gs (gs g1 116 0 x68.toInt) 115 0 x93.toInt) 118 0 x155.toInt) 114 0 := hf162 114 0 (by decide) (by decide)
                          replace hk163 : g158 114 0 = g1 114 0 := by rw [hk163, gs_c _ _ _ _ (by decide), gs_c _ _ _ _ (by decide), gs_c _ _ _ _ (by decide)]
                          refine lv_aload_n hx hb dX9_next_154 rfl (lv_at hl 1 rfl) ?_
                          refine lv_aload_n hx hb dX9_next_155 rfl (lv_at hl 1 rfl) ?_
                          refine get_X9_15 hx hb hA hown hE hG t_h0 wd_4_145 dX9_next_156 (fun x164 h165 => ?_)
                          refine cI (va_runV (C := RX9) (As := [.int x164]) (rest := []) ⟨hx, hb, hml, hown, hA⟩ (k_X9_see l dC dI dA sz X Γ hU g158 h0 t_h0 x164 T N9  (by omega) ((funext fun j => show g158 113 j % 256 = g 113 j % 256 by rw [hf162 113 j (by decide) (by decide), gs_c _ _ _ _ (by decide), gs_c _ _ _ _ (by decide), gs_c _ _ _ _ (by decide), hf2 113 j (by decide)]).trans hT) (by omega)) ⟨callB_of 1 hA (al_A wd_5_81) rfl rfl rfl (hA _ wd_1_7) (hA _ wd_5_78) (by decide +kernel) ⟨Nat.le_of_ble_eq_true rfl, Nat.le_of_ble_eq_true rfl⟩, hA _ wd_5_80, hA _ ws_40⟩ ⟨bl, recv_X9 hE hG t_h0, fun U hU9 hW9 => ⟨rfl, by rw [hU9]; exact hG, hE.go hS hU9 hW9⟩⟩ rfl rfl hl.1 rfl (lv_room (Nat.le_of_ble_eq_true rfl)) dX9_next_159 ⟨Nat.zero_le _, Nat.zero_le _⟩) hS (fun x169 u167 H locs w168 hG hS => ?_)
                          obtain ⟨eu170, w168⟩ := w168
                          rw [eu170] at hG
                          rw [show x164.toInt = g158 115 0 by omega] at w168
                          refine cI (va_runS (As := [.int x169]) (rest := []) ⟨hx, hb, hml, hown, hA⟩ (k_X9_isDigit l dC dI dA sz X Γ hU g158 x169   ) ⟨callB_of 1 hA (al_A wd_5_84) rfl rfl rfl (hA _ wd_1_7) (hA _ wd_5_82) (by decide +kernel) ⟨Nat.le_of_ble_eq_true rfl, Nat.le_of_ble_eq_true rfl⟩, hA _ wd_5_83⟩ ⟨bl, fun U hU9 hW9 => ⟨rfl, by rw [hU9]; exact hG, hE.go hS hU9 hW9⟩⟩ rfl rfl hl.1 rfl (lv_room (Nat.le_of_ble_eq_true rfl)) dX9_next_162 ⟨Nat.zero_le _, Nat.zero_le _⟩) hS (fun x173 u171 H locs w172 hG hS => ?_)
                          obtain ⟨eu174, w172⟩ := w172
                          rw [eu174] at hG
                          rcases pz_or w172 with w172 | w172
                          · skip
                            refine ty_if_eq (tgt := 217) hx hb dX9_next_165 (by decide) (fun c175 => ?_) (fun c175 => ?_)
                            · exfalso; omega
                            · skip
                              refine lv_aload_n hx hb dX9_next_168 rfl (lv_at hl 1 rfl) ?_
                              refine get_X9_15 hx hb hA hown hE hG t_h0 wd_4_145 dX9_next_169 (fun x176 h177 => ?_)
                              refine lv_aload_n hx hb dX9_next_172 rfl (lv_at hl 1 rfl) ?_
                              refine get_X9_16 hx hb hA hown hE hG t_h0 wd_4_146 dX9_next_173 (fun x179 h180 => ?_)
                              have hk182 : g158 116 0 = (gs (gs (gs g1 116 0 x68.toInt) 115 0 x93.toInt) 118 0 x155.toInt) 116 0 := hf162 116 0 (by decide) (by decide)
                              replace hk182 : g158 116 0 = x68.toInt := by rw [hk182, gs_c _ _ _ _ (by decide), gs_c _ _ _ _ (by decide), gs_self]
                              refine ty_isub hx hb dX9_next_176 (fun x183 h184 => ?_)
                              try have h185 : x183.toInt = x176.toInt - x179.toInt := ty_sub h184 (by omega) (by omega)
                              refine ty_iconst hx hb (4) dX9_next_177 (by decide) (fun x186 h187 => ?_)
                              refine ty_icmp_ge (tgt := 204) hx hb dX9_next_178 (by decide) (fun c188 => ?_) (fun c188 => ?_)
                              · skip
                                refine lv_aload_n hx hb dX9_next_204 rfl (lv_at hl 1 rfl) ?_
                                refine lv_dup hx hb dX9_next_205 rfl ?_
                                refine get_X9_15 hx hb hA hown hE hG t_h0 wd_4_145 dX9_next_206 (fun x189 h190 => ?_)
                                refine ty_iconst hx hb (1) dX9_next_209 (by decide) (fun x192 h193 => ?_)
                                refine ty_iadd hx hb dX9_next_210 (fun x194 h195 => ?_)
                                try have h196 : x194.toInt = x189.toInt + x192.toInt := ty_add h195 (by omega) (by omega)
                                refine put_X9_15 hx hb hA hown hE hG hS hU t_h0 wd_4_145 dX9_next_211 (fun H locs hG hS => ?_)
                                refine lv_goto (tgt := 154) hx hb dX9_next_214 (by decide) ?_
                                have e197 : (gs g158 115 0 x194.toInt) 114 0 = g158 114 0 := by rw [gs_c _ _ _ _ (by decide)]
                                have e198 : (gs g158 115 0 x194.toInt) 115 0 = x194.toInt := by rw [gs_self]
                                exact ih_154 (gs g158 115 0 x194.toInt) _ _ ls (by omega) (by omega) (fun c j h115 h118 => by rw [gs_c _ _ _ _ h115, hf162 c j h115 h118]) (by rw [gs_self, show x194.toInt = g158 115 0 + 1 by omega, ← pz_ru_go (p := pz_dg) (t := T) (n := N9) (a := g158 115 0) (by omega) (by omega) (pz_dgt (by omega))]; exact hq0) (by rw [gs_self, gs_c _ _ _ _ (by decide)]; exact pz_vb_up hq1 (by omega) (by omega)) (by rw [gs_c _ _ _ _ (by decide), gs_self]; exact pz_di_up (a := g158 115 0) hq2 (by omega) (by omega) (by omega) (by omega)) hG hS (lv_sub hl [0, 1] rfl)
                              · skip
                                refine lv_aload_n hx hb dX9_next_181 rfl (lv_at hl 1 rfl) ?_
                                have hb9 := pz_vb_le hq1 (by omega)
                                refine ty_bipush hx hb (10) dX9_next_182 (by decide) (fun x199 h200 => ?_)
                                refine lv_aload_n hx hb dX9_next_184 rfl (lv_at hl 1 rfl) ?_
                                refine get_X9_18 hx hb hA hown hE hG t_h0 wd_4_148 dX9_next_185 (fun x201 h202 => ?_)
                                refine ty_imul hx hb dX9_next_188 (fun x204 h205 => ?_)
                                try have h206 : x204.toInt = 10 * x201.toInt := ty_mull h205 (by omega) (by omega) (by omega)
                                refine lv_aload_n hx hb dX9_next_189 rfl (lv_at hl 1 rfl) ?_
                                refine lv_aload_n hx hb dX9_next_190 rfl (lv_at hl 1 rfl) ?_
                                refine get_X9_15 hx hb hA hown hE hG t_h0 wd_4_145 dX9_next_191 (fun x207 h208 => ?_)
                                refine cI (va_runV (C := RX9) (As := [.int x207]) (rest := [.int x204, .ref h0]) ⟨hx, hb, hml, hown, hA⟩ (k_X9_see l dC dI dA sz X Γ hU g158 h0 t_h0 x207 T N9  (by omega) ((funext fun j => show g158 113 j % 256 = g 113 j % 256 by rw [hf162 113 j (by decide) (by decide), gs_c _ _ _ _ (by decide), gs_c _ _ _ _ (by decide), gs_c _ _ _ _ (by decide), hf2 113 j (by decide)]).trans hT) (by omega)) ⟨callB_of 1 hA (al_A wd_5_81) rfl rfl rfl (hA _ wd_1_7) (hA _ wd_5_78) (by decide +kernel) ⟨Nat.le_of_ble_eq_true rfl, Nat.le_of_ble_eq_true rfl⟩, hA _ wd_5_80, hA _ ws_40⟩ ⟨bl, recv_X9 hE hG t_h0, fun U hU9 hW9 => ⟨rfl, by rw [hU9]; exact hG, hE.go hS hU9 hW9⟩⟩ rfl rfl hl.1 rfl (lv_room (Nat.le_of_ble_eq_true rfl)) dX9_next_194 ⟨Nat.zero_le _, Nat.zero_le _⟩) hS (fun x212 u210 H locs w211 hG hS => ?_)
                                obtain ⟨eu213, w211⟩ := w211
                                rw [eu213] at hG
                                rw [show x207.toInt = g158 115 0 by omega] at w211
                                refine ty_iadd hx hb dX9_next_197 (fun x214 h215 => ?_)
                                try have h216 : x214.toInt = x204.toInt + x212.toInt := ty_add h215 (by omega) (by omega)
                                refine ty_bipush hx hb (48) dX9_next_198 (by decide) (fun x217 h218 => ?_)
                                refine ty_isub hx hb dX9_next_200 (fun x219 h220 => ?_)
                                try have h221 : x219.toInt = x214.toInt - x217.toInt := ty_sub h220 (by omega) (by omega)
                                refine put_X9_18 hx hb hA hown hE hG hS hU t_h0 wd_4_148 dX9_next_201 (fun H locs hG hS => ?_)
                                refine lv_aload_n hx hb dX9_next_204 rfl (lv_at hl 1 rfl) ?_
                                refine lv_dup hx hb dX9_next_205 rfl ?_
                                refine get_X9_15 hx hb hA hown hE hG t_h0 wd_4_145 dX9_next_206 (fun x222 h223 => ?_)
                                replace h223 : x222.toInt = g158 115 0 := by rw [h223, gs_c _ _ _ _ (by decide)]
                                refine ty_iconst hx hb (1) dX9_next_209 (by decide) (fun x225 h226 => ?_)
                                refine ty_iadd hx hb dX9_next_210 (fun x227 h228 => ?_)
                                try have h229 : x227.toInt = x222.toInt + x225.toInt := ty_add h228 (by omega) (by omega)
                                refine put_X9_15 hx hb hA hown hE hG hS hU t_h0 wd_4_145 dX9_next_211 (fun H locs hG hS => ?_)
                                refine lv_goto (tgt := 154) hx hb dX9_next_214 (by decide) ?_
                                have e230 : (gs (gs g158 118 0 x219.toInt) 115 0 x227.toInt) 114 0 = g158 114 0 := by rw [gs_c _ _ _ _ (by decide), gs_c _ _ _ _ (by decide)]
                                have e231 : (gs (gs g158 118 0 x219.toInt) 115 0 x227.toInt) 115 0 = x227.toInt := by rw [gs_self]
                                exact ih_154 (gs (gs g158 118 0 x219.toInt) 115 0 x227.toInt) _ _ ls (by omega) (by omega) (fun c j h115 h118 => by rw [gs_c _ _ _ _ h115, gs_c _ _ _ _ h118, hf162 c j h115 h118]) (by rw [gs_self, show x227.toInt = g158 115 0 + 1 by omega, ← pz_ru_go (p := pz_dg) (t := T) (n := N9) (a := g158 115 0) (by omega) (by omega) (pz_dgt (by omega))]; exact hq0) (by rw [gs_self, gs_c _ _ _ _ (by decide), gs_self]; exact pz_vb_go (d := T (g158 115 0).toNat - 48) hq1 (by omega) (by omega) (by omega) (by omega) (by omega)) (by rw [gs_c _ _ _ _ (by decide), gs_self, gs_self]; exact pz_di_go (a := g158 115 0) hq2 (by omega) (by omega) (by omega) (by omega) (by omega)) hG hS (lv_sub hl [0, 1] rfl)
                          · skip
                            refine ty_if_eq (tgt := 217) hx hb dX9_next_165 (by decide) (fun c232 => ?_) (fun c232 => ?_)
                            · skip
                              have hx9 : pz_ru pz_dg T N9 (g158 115 0) = g158 115 0 := by by_cases h9 : g158 115 0 < (N9 : Int); exact pz_ru_no (by omega) (pz_dgf (by omega)); exact pz_ru_end (by omega) (by omega)
                              have hg9 : (gs (gs (gs g1 116 0 x68.toInt) 115 0 x93.toInt) 118 0 x155.toInt) 115 0 = g1 115 0 + 1 := by rw [show (gs (gs (gs g1 116 0 x68.toInt) 115 0 x93.toInt) 118 0 x155.toInt) 115 0 = x93.toInt by simp [gs]]; omega
                              have hy9 : pz_ru pz_dg T N9 (g1 115 0) = pz_ru pz_dg T N9 ((gs (gs (gs g1 116 0 x68.toInt) 115 0 x93.toInt) 118 0 x155.toInt) 115 0) := by rw [hg9]; exact pz_ru_go (by omega) (by omega) (pz_dgt (by omega))
                              refine lv_aload_n hx hb dX9_next_217 rfl (lv_at hl 1 rfl) ?_
                              refine lv_aload_n hx hb dX9_next_218 rfl (lv_at hl 1 rfl) ?_
                              refine get_X9_15 hx hb hA hown hE hG t_h0 wd_4_145 dX9_next_219 (fun x233 h234 => ?_)
                              refine lv_aload_n hx hb dX9_next_222 rfl (lv_at hl 1 rfl) ?_
                              refine get_X9_16 hx hb hA hown hE hG t_h0 wd_4_146 dX9_next_223 (fun x236 h237 => ?_)
                              have hk239 : g158 116 0 = (gs (gs (gs g1 116 0 x68.toInt) 115 0 x93.toInt) 118 0 x155.toInt) 116 0 := hf162 116 0 (by decide) (by decide)
                              replace hk239 : g158 116 0 = x68.toInt := by rw [hk239, gs_c _ _ _ _ (by decide), gs_c _ _ _ _ (by decide), gs_self]
                              refine ty_isub hx hb dX9_next_226 (fun x240 h241 => ?_)
                              try have h242 : x240.toInt = x233.toInt - x236.toInt := ty_sub h241 (by omega) (by omega)
                              refine ty_iconst hx hb (4) dX9_next_227 (by decide) (fun x243 h244 => ?_)
                              refine ty_icmp_le (tgt := 235) hx hb dX9_next_228 (by decide) (fun c245 => ?_) (fun c245 => ?_)
                              · skip
                                refine ty_iconst hx hb (2) dX9_next_235 (by decide) (fun x246 h247 => ?_)
                                refine put_X9_17 hx hb hA hown hE hG hS hU t_h0 wd_4_147 dX9_next_236 (fun H locs hG hS => ?_)
                                refine lv_goto (tgt := 257) hx hb dX9_next_239 (by decide) ?_
                                have e248 : (gs g158 117 0 x246.toInt) 115 0 = g158 115 0 := by rw [gs_c _ _ _ _ (by decide)]
                                have hk249 : g1 116 0 = g 116 0 := hf2 116 0 (by decide)
                                have e250 : (gs g158 117 0 x246.toInt) 116 0 = g158 116 0 := by rw [gs_c _ _ _ _ (by decide)]
                                have e251 : (gs g158 117 0 x246.toInt) 117 0 = x246.toInt := by rw [gs_self]
                                have e252 : (gs g158 117 0 x246.toInt) 118 0 = g158 118 0 := by rw [gs_c _ _ _ _ (by decide)]
                                have hk253 : g158 119 0 = (gs (gs (gs g1 116 0 x68.toInt) 115 0 x93.toInt) 118 0 x155.toInt) 119 0 := hf162 119 0 (by decide) (by decide)
                                replace hk253 : g158 119 0 = g1 119 0 := by rw [hk253, gs_c _ _ _ _ (by decide), gs_c _ _ _ _ (by decide), gs_c _ _ _ _ (by decide)]
                                have hk254 : g1 119 0 = g 119 0 := hf2 119 0 (by decide)
                                have e255 : (gs g158 117 0 x246.toInt) 119 0 = g158 119 0 := by rw [gs_c _ _ _ _ (by decide)]
                                have hk256 : g158 120 0 = (gs (gs (gs g1 116 0 x68.toInt) 115 0 x93.toInt) 118 0 x155.toInt) 120 0 := hf162 120 0 (by decide) (by decide)
                                replace hk256 : g158 120 0 = g1 120 0 := by rw [hk256, gs_c _ _ _ _ (by decide), gs_c _ _ _ _ (by decide), gs_c _ _ _ _ (by decide)]
                                have hk257 : g1 120 0 = g 120 0 := hf2 120 0 (by decide)
                                have e258 : (gs g158 117 0 x246.toInt) 120 0 = g158 120 0 := by rw [gs_c _ _ _ _ (by decide)]
                                exact W.vret hx hb hr (fun t ht hW => ⟨⟨(gs g158 117 0 x246.toInt), rfl, ⟨(fun c j h115 h116 h117 h118 => by rw [gs_c _ _ _ _ h117, hf162 c j h115 h118, gs_c _ _ _ _ h118, gs_c _ _ _ _ h115, gs_c _ _ _ _ h116, hf2 c j h115]), (by omega), (by (rw [pz_mx_d (x := pz_m g) (s := g1 115 0) (e := (gs g158 117 0 x246.toInt) 115 0) (k := pz_s ((gs g158 117 0 x246.toInt) 117 0)) (v := (gs g158 117 0 x246.toInt) 118 0) (show g1 115 0 = pz_ru pz_bk T N9 (g 115 0) by omega) (by omega) (by omega) (by omega) (by rw [show (gs g158 117 0 x246.toInt) 115 0 = g158 115 0 by omega, show (gs g158 117 0 x246.toInt) 118 0 = g158 118 0 by omega]; exact hq2) ⟨fun q => pz_s2.mpr (by omega), fun q => pz_s4 (by omega)⟩]; exact pz_mk rfl (show (gs g158 117 0 x246.toInt) 116 0 = g1 115 0 by omega) rfl rfl (show (gs g158 117 0 x246.toInt) 119 0 = g 119 0 by omega) (show (if (gs g158 117 0 x246.toInt) 119 0 = 0 then (-1 : Int) else (gs g158 117 0 x246.toInt) 120 0) = (if g 119 0 = 0 then -1 else g 120 0) by rw [show (gs g158 117 0 x246.toInt) 119 0 = g 119 0 by omega, show (gs g158 117 0 x246.toInt) 120 0 = g 120 0 by omega])))⟩, ok1 ht hG⟩, hS.F ht⟩) hS.2.2 dX9_next_257
                              · skip
                                refine ty_iconst hx hb (1) dX9_next_231 (by decide) (fun x259 h260 => ?_)
                                refine lv_goto (tgt := 236) hx hb dX9_next_232 (by decide) ?_
                                refine put_X9_17 hx hb hA hown hE hG hS hU t_h0 wd_4_147 dX9_next_236 (fun H locs hG hS => ?_)
                                refine lv_goto (tgt := 257) hx hb dX9_next_239 (by decide) ?_
                                have e261 : (gs g158 117 0 x259.toInt) 115 0 = g158 115 0 := by rw [gs_c _ _ _ _ (by decide)]
                                have hk262 : g1 116 0 = g 116 0 := hf2 116 0 (by decide)
                                have e263 : (gs g158 117 0 x259.toInt) 116 0 = g158 116 0 := by rw [gs_c _ _ _ _ (by decide)]
                                have e264 : (gs g158 117 0 x259.toInt) 117 0 = x259.toInt := by rw [gs_self]
                                have e265 : (gs g158 117 0 x259.toInt) 118 0 = g158 118 0 := by rw [gs_c _ _ _ _ (by decide)]
                                have hk266 : g158 119 0 = (gs (gs (gs g1 116 0 x68.toInt) 115 0 x93.toInt) 118 0 x155.toInt) 119 0 := hf162 119 0 (by decide) (by decide)
                                replace hk266 : g158 119 0 = g1 119 0 := by rw [hk266, gs_c _ _ _ _ (by decide), gs_c _ _ _ _ (by decide), gs_c _ _ _ _ (by decide)]
                                have hk267 : g1 119 0 = g 119 0 := hf2 119 0 (by decide)
                                have e268 : (gs g158 117 0 x259.toInt) 119 0 = g158 119 0 := by rw [gs_c _ _ _ _ (by decide)]
                                have hk269 : g158 120 0 = (gs (gs (gs g1 116 0 x68.toInt) 115 0 x93.toInt) 118 0 x155.toInt) 120 0 := hf162 120 0 (by decide) (by decide)
                                replace hk269 : g158 120 0 = g1 120 0 := by rw [hk269, gs_c _ _ _ _ (by decide), gs_c _ _ _ _ (by decide), gs_c _ _ _ _ (by decide)]
                                have hk270 : g1 120 0 = g 120 0 := hf2 120 0 (by decide)
                                have e271 : (gs g158 117 0 x259.toInt) 120 0 = g158 120 0 := by rw [gs_c _ _ _ _ (by decide)]
                                exact W.vret hx hb hr (fun t ht hW => ⟨⟨(gs g158 117 0 x259.toInt), rfl, ⟨(fun c j h115 h116 h117 h118 => by rw [gs_c _ _ _ _ h117, hf162 c j h115 h118, gs_c _ _ _ _ h118, gs_c _ _ _ _ h115, gs_c _ _ _ _ h116, hf2 c j h115]), (by omega), (by (rw [pz_mx_d (x := pz_m g) (s := g1 115 0) (e := (gs g158 117 0 x259.toInt) 115 0) (k := pz_s ((gs g158 117 0 x259.toInt) 117 0)) (v := (gs g158 117 0 x259.toInt) 118 0) (show g1 115 0 = pz_ru pz_bk T N9 (g 115 0) by omega) (by omega) (by omega) (by omega) (by rw [show (gs g158 117 0 x259.toInt) 115 0 = g158 115 0 by omega, show (gs g158 117 0 x259.toInt) 118 0 = g158 118 0 by omega]; exact hq2) ⟨fun q => pz_s2.mpr (by omega), fun q => pz_s4 (by omega)⟩]; exact pz_mk rfl (show (gs g158 117 0 x259.toInt) 116 0 = g1 115 0 by omega) rfl rfl (show (gs g158 117 0 x259.toInt) 119 0 = g 119 0 by omega) (show (if (gs g158 117 0 x259.toInt) 119 0 = 0 then (-1 : Int) else (gs g158 117 0 x259.toInt) 120 0) = (if g 119 0 = 0 then -1 else g 120 0) by rw [show (gs g158 117 0 x259.toInt) 119 0 = g 119 0 by omega, show (gs g158 117 0 x259.toInt) 120 0 = g 120 0 by omega])))⟩, ok1 ht hG⟩, hS.F ht⟩) hS.2.2 dX9_next_257
                            · exfalso; omega
                      have e272 : (gs (gs (gs g1 116 0 x68.toInt) 115 0 x93.toInt) 118 0 x155.toInt) 114 0 = g1 114 0 := by rw [gs_c _ _ _ _ (by decide), gs_c _ _ _ _ (by decide), gs_c _ _ _ _ (by decide)]
                      have e273 : (gs (gs (gs g1 116 0 x68.toInt) 115 0 x93.toInt) 118 0 x155.toInt) 115 0 = x93.toInt := by rw [gs_c _ _ _ _ (by decide), gs_self]
                      exact L_154 (((gs (gs (gs g1 116 0 x68.toInt) 115 0 x93.toInt) 118 0 x155.toInt) 114 0 - (gs (gs (gs g1 116 0 x68.toInt) 115 0 x93.toInt) 118 0 x155.toInt) 115 0) + 1).toNat (gs (gs (gs g1 116 0 x68.toInt) 115 0 x93.toInt) 118 0 x155.toInt) _ _ ls (by omega) (by omega) (fun c j _ _ => rfl) (rfl) (by rw [show (gs (gs (gs g1 116 0 x68.toInt) 115 0 x93.toInt) 118 0 x155.toInt) 115 0 = x93.toInt by simp [gs], show (gs (gs (gs g1 116 0 x68.toInt) 115 0 x93.toInt) 118 0 x155.toInt) 118 0 = x155.toInt by simp [gs]]; exact pz_vb_go (k := 0) (v := 0) (d := T (g1 115 0).toNat - 48) (pz_vb_0 rfl rfl) (by omega) (by omega) (by omega) (by omega) (by omega)) (by rw [show (gs (gs (gs g1 116 0 x68.toInt) 115 0 x93.toInt) 118 0 x155.toInt) 115 0 = x93.toInt by simp [gs], show (gs (gs (gs g1 116 0 x68.toInt) 115 0 x93.toInt) 118 0 x155.toInt) 118 0 = x155.toInt by simp [gs]]; exact pz_di_go (a := g1 115 0) (v := 0) (pz_di_0 rfl).symm (by omega) (by omega) (by omega) (by omega) (by omega)) hG hS (lv_sub hl [0, 1] rfl)
                  · skip
                    refine ty_if_eq (tgt := 242) hx hb dX9_next_143 (by decide) (fun c274 => ?_) (fun c274 => ?_)
                    · skip
                      refine lv_aload_n hx hb dX9_next_242 rfl (lv_at hl 1 rfl) ?_
                      refine lv_iload_n hx hb dX9_next_243 rfl (lv_at hl 0 rfl) ?_
                      refine ty_bipush hx hb (59) dX9_next_244 (by decide) (fun x275 h276 => ?_)
                      refine ty_icmp_ne (tgt := 253) hx hb dX9_next_246 (by decide) (fun c277 => ?_) (fun c277 => ?_)
                      · skip
                        refine ty_iconst hx hb (1) dX9_next_253 (by decide) (fun x278 h279 => ?_)
                        refine put_X9_17 hx hb hA hown hE hG hS hU t_h0 wd_4_147 dX9_next_254 (fun H locs hG hS => ?_)
                        generalize eg281 : (gs (gs (gs g1 116 0 x68.toInt) 115 0 x93.toInt) 117 0 x278.toInt) = g280 at hG
                        have hf282 : ∀ c j : Nat, c ≠ 116 → c ≠ 115 → c ≠ 117 → g280 c j = g1 c j := fun c j h116 h115 h117 => by rw [← eg281, gs_c _ _ _ _ h117, gs_c _ _ _ _ h115, gs_c _ _ _ _ h116]
                        have v283 : g280 116 0 = x68.toInt := by rw [← eg281, gs_c _ _ _ _ (by decide), gs_c _ _ _ _ (by decide), gs_self]
                        have v284 : g280 115 0 = x93.toInt := by rw [← eg281, gs_c _ _ _ _ (by decide), gs_self]
                        have v285 : g280 117 0 = x278.toInt := by rw [← eg281, gs_self]
                        have hk286 : g280 118 0 = g1 118 0 := hf282 118 0 (by decide) (by decide) (by decide)
                        have hk287 : g1 118 0 = g 118 0 := hf2 118 0 (by decide)
                        have hk288 : g280 119 0 = g1 119 0 := hf282 119 0 (by decide) (by decide) (by decide)
                        have hk289 : g1 119 0 = g 119 0 := hf2 119 0 (by decide)
                        have hk290 : g280 120 0 = g1 120 0 := hf282 120 0 (by decide) (by decide) (by decide)
                        have hk291 : g1 120 0 = g 120 0 := hf2 120 0 (by decide)
                        exact W.vret hx hb hr (fun t ht hW => ⟨⟨g280, rfl, ⟨(fun c j h115 h116 h117 h118 => by rw [hf282 c j h116 h115 h117, hf2 c j h115]), (by omega), (by (rw [pz_mx_o (x := pz_m g) (s := g1 115 0) (e := g280 115 0) (k := pz_s (g280 117 0)) (show g1 115 0 = pz_ru pz_bk T N9 (g 115 0) by omega) (by omega) (by omega) (by omega) (by omega) ⟨fun q => pz_s3.mpr (by omega), fun q => pz_s4 (by omega)⟩]; exact pz_mk rfl (show g280 116 0 = g1 115 0 by omega) rfl (show g280 118 0 = g 118 0 by omega) (show g280 119 0 = g 119 0 by omega) (show (if g280 119 0 = 0 then (-1 : Int) else g280 120 0) = (if g 119 0 = 0 then -1 else g 120 0) by rw [show g280 119 0 = g 119 0 by omega, show g280 120 0 = g 120 0 by omega])))⟩, ok1 ht hG⟩, hS.F ht⟩) hS.2.2 dX9_next_257
                      · skip
                        refine ty_iconst hx hb (4) dX9_next_249 (by decide) (fun x292 h293 => ?_)
                        refine lv_goto (tgt := 254) hx hb dX9_next_250 (by decide) ?_
                        refine put_X9_17 hx hb hA hown hE hG hS hU t_h0 wd_4_147 dX9_next_254 (fun H locs hG hS => ?_)
                        generalize eg295 : (gs (gs (gs g1 116 0 x68.toInt) 115 0 x93.toInt) 117 0 x292.toInt) = g294 at hG
                        have hf296 : ∀ c j : Nat, c ≠ 116 → c ≠ 115 → c ≠ 117 → g294 c j = g1 c j := fun c j h116 h115 h117 => by rw [← eg295, gs_c _ _ _ _ h117, gs_c _ _ _ _ h115, gs_c _ _ _ _ h116]
                        have v297 : g294 116 0 = x68.toInt := by rw [← eg295, gs_c _ _ _ _ (by decide), gs_c _ _ _ _ (by decide), gs_self]
                        have v298 : g294 115 0 = x93.toInt := by rw [← eg295, gs_c _ _ _ _ (by decide), gs_self]
                        have v299 : g294 117 0 = x292.toInt := by rw [← eg295, gs_self]
                        have hk300 : g294 118 0 = g1 118 0 := hf296 118 0 (by decide) (by decide) (by decide)
                        have hk301 : g1 118 0 = g 118 0 := hf2 118 0 (by decide)
                        have hk302 : g294 119 0 = g1 119 0 := hf296 119 0 (by decide) (by decide) (by decide)
                        have hk303 : g1 119 0 = g 119 0 := hf2 119 0 (by decide)
                        have hk304 : g294 120 0 = g1 120 0 := hf296 120 0 (by decide) (by decide) (by decide)
                        have hk305 : g1 120 0 = g 120 0 := hf2 120 0 (by decide)
                        exact W.vret hx hb hr (fun t ht hW => ⟨⟨g294, rfl, ⟨(fun c j h115 h116 h117 h118 => by rw [hf296 c j h116 h115 h117, hf2 c j h115]), (by omega), (by (rw [pz_mx_o (x := pz_m g) (s := g1 115 0) (e := g294 115 0) (k := pz_s (g294 117 0)) (show g1 115 0 = pz_ru pz_bk T N9 (g 115 0) by omega) (by omega) (by omega) (by omega) (by omega) ⟨fun q => pz_s3.mpr (by omega), fun q => pz_s4 (by omega)⟩]; exact pz_mk rfl (show g294 116 0 = g1 115 0 by omega) rfl (show g294 118 0 = g 118 0 by omega) (show g294 119 0 = g 119 0 by omega) (show (if g294 119 0 = 0 then (-1 : Int) else g294 120 0) = (if g 119 0 = 0 then -1 else g 120 0) by rw [show g294 119 0 = g 119 0 by omega, show g294 120 0 = g 120 0 by omega])))⟩, ok1 ht hG⟩, hS.F ht⟩) hS.2.2 dX9_next_257
                    · exfalso; omega
                · exfalso; omega
            · exfalso; omega
          · skip
            refine lv_aload_n hx hb dX9_next_39 rfl (lv_at hl 0 rfl) ?_
            refine lv_dup hx hb dX9_next_40 rfl ?_
            refine get_X9_15 hx hb hA hown hE hG t_h0 wd_4_145 dX9_next_41 (fun x306 h307 => ?_)
            refine ty_iconst hx hb (1) dX9_next_44 (by decide) (fun x309 h310 => ?_)
            refine ty_iadd hx hb dX9_next_45 (fun x311 h312 => ?_)
            try have h313 : x311.toInt = x306.toInt + x309.toInt := ty_add h312 (by omega) (by omega)
            refine put_X9_15 hx hb hA hown hE hG hS hU t_h0 wd_4_145 dX9_next_46 (fun H locs hG hS => ?_)
            refine lv_goto (tgt := 0) hx hb dX9_next_49 (by decide) ?_
            have e314 : (gs g1 115 0 x311.toInt) 114 0 = g1 114 0 := by rw [gs_c _ _ _ _ (by decide)]
            have e315 : (gs g1 115 0 x311.toInt) 115 0 = x311.toInt := by rw [gs_self]
            exact ih_0 (gs g1 115 0 x311.toInt) _ _ ls (by omega) (by omega) (fun c j h115 => by rw [gs_c _ _ _ _ h115, hf2 c j h115]) (by rw [gs_self, show x311.toInt = g1 115 0 + 1 by omega, ← pz_ru_go (p := pz_bk) (t := T) (n := N9) (a := g1 115 0) (by omega) (by omega) (pz_bkt (by omega))]; exact hq0) hG hS (lv_sub hl [0] rfl)
  exact L_0 ((g 114 0 - g 115 0) + 1).toNat g _ _ ls (by omega) (by omega) (fun c j _ => rfl) (rfl) hG hS (lv_sub hl [0] rfl)

set_option maxHeartbeats 4000000 in
set_option maxRecDepth 100000 in
/-- WeekBankModel.isWord:  -/
theorem k_X9_isWord (l : Launch) (dC : Nat → ClassId) (dI : Nat → Nat → Nat) (dA : Nat → ClassId) (sz : Nat) (X : va_W) (Γ : ty_G) (hU : Un Γ) (g : gh) (h0 : Nat) (t_h0 : ty Γ h0 30) (kk : Nat) (hkk : kk < 12) (T : Nat → Int) (N9 : Nat) (hp : 0 ≤ g 116 0 ∧ g 116 0 ≤ g 115 0 ∧ g 115 0 ≤ g 114 0 ∧ g 114 0 ≤ 300) (hT : pz_t g = T) (hN : g 114 0 = (N9 : Int)) : Met l yX9_isWord (.code yX9_isWord cX9_isWord 3 (Option.some Jvm.ClassFile.FieldType.boolean) :: AL) ({ frames := 4, cells := 0, slots := 0, locals := 85 }) (PCx dC dI dA sz X Γ g [.ref h0, .ref (dI 100 kk)]) (va_Qi (fun (r : Int32) (u : gh) => u = g ∧ ((r.toInt = 0 ∨ r.toInt = 1)) ∧ (pz_W T (pz_m g) (sB kk) = decide (r.toInt = 1))) (okb dC dI dA sz X Γ) (ty_A sz)) 0 0 (ty_A sz) := by
  refine Met.ofW (cc := cX9_isWord) (maxL := 3) (ret := (Option.some Jvm.ClassFile.FieldType.boolean)) (by decide) rfl ?_
  intro p e s m args below meth c s₁ B hml hv
  obtain ⟨rfl, hG, hE⟩ := hv
  have hx := B.exec
  have hb := B.bytes
  have hr := B.returns
  have hts := atoms_spec B.pre
  have hA : ∀ w ∈ AL, w.before _ s = true := fun w h => hts w (List.mem_cons_of_mem _ h)
  have hown : s.vm.findClass RX9 = some m.cls := findClass_of_methodNamed B.named
  have hlocks := B.notSynchronized
  have hS : va_S (ty_A sz) s.heap s.heap [] := va_S.rf
  have hES := hE.2.1.2.2.2.2.2.2
  have hl := lv_entry ([.ref h0, .ref (dI 100 kk)]) (n := 3) (Nat.le_of_ble_eq_true rfl)
  rw [lg_entry_eq]
  generalize (lg_sl ([.ref h0, .ref (dI 100 kk)]) ++ List.replicate (3 - (lg_sl ([.ref h0, .ref (dI 100 kk)])).length) Slot.unset).toArray = ls at hl ⊢
  have hl : lv_has ls 3 [(0, .ref h0), (1, .ref (dI 100 kk))] := hl
  refine lv_aload_n hx hb dX9_isWord_0 rfl (lv_at hl 0 rfl) ?_
  refine get_X9_17 hx hb hA hown hE hG t_h0 wd_4_147 dX9_isWord_1 (fun x1 h2 => ?_)
  refine ty_iconst hx hb (3) dX9_isWord_4 (by decide) (fun x4 h5 => ?_)
  refine ty_icmp_ne (tgt := 24) hx hb dX9_isWord_5 (by decide) (fun c6 => ?_) (fun c6 => ?_)
  · skip
    refine ty_iconst hx hb (0) dX9_isWord_24 (by decide) (fun x7 h8 => ?_)
    exact W.zret (v := x7) hx hb hr (ty_nb (by omega)).1 (fun t ht hW => ⟨⟨x7, g, rfl, ⟨rfl, (by omega), (by rw [show decide (x7.toInt = 1) = false from decide_eq_false (by omega)]; exact pz_Wf1 (x := (pz_m g)) (show pz_s (g 117 0) ≠ 1 from fun q => absurd (pz_s1.mp q) (by omega)))⟩, ok1 ht hG⟩, hS.F ht⟩) hS.2.2 dX9_isWord_25
  · skip
    refine lv_aload_n hx hb dX9_isWord_8 rfl (lv_at hl 0 rfl) ?_
    refine get_X9_15 hx hb hA hown hE hG t_h0 wd_4_145 dX9_isWord_9 (fun x9 h10 => ?_)
    refine lv_aload_n hx hb dX9_isWord_12 rfl (lv_at hl 0 rfl) ?_
    refine get_X9_16 hx hb hA hown hE hG t_h0 wd_4_146 dX9_isWord_13 (fun x12 h13 => ?_)
    refine ty_isub hx hb dX9_isWord_16 (fun x15 h16 => ?_)
    try have h17 : x15.toInt = x9.toInt - x12.toInt := ty_sub h16 (by omega) (by omega)
    refine lv_aload_n hx hb dX9_isWord_17 rfl (lv_at hl 1 rfl) ?_
    refine cI (va_runV (C := RJ0) (As := []) (rest := [.int x15]) ⟨hx, hb, hml, hown, hA⟩ (k_J0_length_8abf5 l dC dI dA sz X Γ hU g kk hkk   ) ⟨callB_of 0 hA (al_A wd_2_134) rfl rfl rfl (hA _ wd_1_10) (hA _ wd_5_94) (by decide +kernel) ⟨Nat.le_of_ble_eq_true rfl, Nat.le_of_ble_eq_true rfl⟩, hA _ wd_2_132, hA _ wd_2_133⟩ ⟨bl, str_recv hES hS hkk, fun U hU9 hW9 => ⟨rfl, by rw [hU9]; exact hG, hE.go hS hU9 hW9⟩⟩ rfl rfl hl.1 rfl (lv_room (Nat.le_of_ble_eq_true rfl)) dX9_isWord_18 ⟨Nat.zero_le _, Nat.zero_le _⟩) hS (fun x20 u18 H locs w19 hG hS => ?_)
    obtain ⟨eu21, w19⟩ := w19
    rw [eu21] at hG
    refine ty_icmp_eq (tgt := 26) hx hb dX9_isWord_21 (by decide) (fun c22 => ?_) (fun c22 => ?_)
    · skip
      refine ty_iconst hx hb (0) dX9_isWord_26 (by decide) (fun x23 h24 => ?_)
      refine lv_istore_n (lv' := [(2, .int x23), (0, .ref h0), (1, .ref (dI 100 kk))]) hx hb dX9_isWord_27 rfl hl (by decide) rfl (fun ls hl => ?_)
      have L_28 : ∀ (n : Nat) (v2_28 : Int32) (H : Heap) (locs : List Loc) (ls : Array Slot), (((sB kk).length : Int) - v2_28.toInt : Int) < n → 0 ≤ v2_28.toInt ∧ v2_28.toInt ≤ ((sB kk).length : Int) → (∀ i : Nat, (i : Int) < v2_28.toInt → T ((g 116 0).toNat + i) = ((sB kk).getD i 0).toInt) → ty_ok (dC, dI) vwCl Γ (TP dA Γ g) sz X H → va_S (ty_A sz) s.heap H locs → lv_has ls 3 [(2, .int v2_28), (0, .ref h0), (1, .ref (dI 100 kk))] → W p l e (headSpec (.code yX9_isWord cX9_isWord 3 (Option.some Jvm.ClassFile.FieldType.boolean) :: AL) ({ frames := 4, cells := 0, slots := 0, locals := 85 })).room s m ([.ref h0, .ref (dI 100 kk)] : List Value).toArray below meth c H locs 0 0 (MQ below (va_Qi (fun (r : Int32) (u : gh) => u = g ∧ ((r.toInt = 0 ∨ r.toInt = 1)) ∧ (pz_W T (pz_m g) (sB kk) = decide (r.toInt = 1))) (okb dC dI dA sz X Γ) (ty_A sz)) ([.ref h0, .ref (dI 100 kk)] : List Value).toArray s 0 0 (ty_A sz)) (F0 m 28 ls []) := by
        intro n
        induction n with
        | zero => intro v2_28 H locs ls hm hi0 hq0 hG hS hl; exfalso; omega
        | succ n ih_28 =>
          intro v2_28 H locs ls hm hi0 hq0 hG hS hl
          refine lv_iload_n hx hb dX9_isWord_28 rfl (lv_at hl 0 rfl) ?_
          refine lv_aload_n hx hb dX9_isWord_29 rfl (lv_at hl 2 rfl) ?_
          refine cI (va_runV (C := RJ0) (As := []) (rest := [.int v2_28]) ⟨hx, hb, hml, hown, hA⟩ (k_J0_length_8abf5 l dC dI dA sz X Γ hU g kk hkk   ) ⟨callB_of 0 hA (al_A wd_2_134) rfl rfl rfl (hA _ wd_1_10) (hA _ wd_5_94) (by decide +kernel) ⟨Nat.le_of_ble_eq_true rfl, Nat.le_of_ble_eq_true rfl⟩, hA _ wd_2_132, hA _ wd_2_133⟩ ⟨bl, str_recv hES hS hkk, fun U hU9 hW9 => ⟨rfl, by rw [hU9]; exact hG, hE.go hS hU9 hW9⟩⟩ rfl rfl hl.1 rfl (lv_room (Nat.le_of_ble_eq_true rfl)) dX9_isWord_30 ⟨Nat.zero_le _, Nat.zero_le _⟩) hS (fun x28 u26 H locs w27 hG hS => ?_)
          obtain ⟨eu29, w27⟩ := w27
          rw [eu29] at hG
          refine ty_icmp_ge (tgt := 63) hx hb dX9_isWord_33 (by decide) (fun c30 => ?_) (fun c30 => ?_)
          · skip
            refine ty_iconst hx hb (1) dX9_isWord_63 (by decide) (fun x31 h32 => ?_)
            exact W.zret (v := x31) hx hb hr (ty_nb (by omega)).1 (fun t ht hW => ⟨⟨x31, g, rfl, ⟨rfl, (by omega), (by rw [show decide (x31.toInt = 1) = true from decide_eq_true (by omega)]; exact pz_Wt (x := (pz_m g)) (by show pz_s (g 117 0) = 1; rw [show g 117 0 = 3 by omega]; rfl) (show g 115 0 - g 116 0 = ((sB kk).length : Int) by omega) (fun i hi => hq0 i (by omega)))⟩, ok1 ht hG⟩, hS.F ht⟩) hS.2.2 dX9_isWord_64
          · skip
            refine lv_aload_n hx hb dX9_isWord_36 rfl (lv_at hl 1 rfl) ?_
            refine get_X9_13 hx hb hA hown hE hG t_h0 wd_4_143 dX9_isWord_37 (fun b33 (t_b33 : ty Γ b33 113) => ?_)
            refine lv_aload_n hx hb dX9_isWord_40 rfl (lv_at hl 1 rfl) ?_
            refine get_X9_16 hx hb hA hown hE hG t_h0 wd_4_146 dX9_isWord_41 (fun x34 h35 => ?_)
            refine lv_iload_n hx hb dX9_isWord_44 rfl (lv_at hl 0 rfl) ?_
            refine ty_iadd hx hb dX9_isWord_45 (fun x37 h38 => ?_)
            try have h39 : x37.toInt = x34.toInt + v2_28.toInt := ty_add h38 (by omega) (by omega)
            refine ald_mB hx hb hE hG 13 rfl (n := 300) rfl (lo := -128) (hi := 127) rfl rfl t_b33 (by omega) dX9_isWord_46 (fun j41 x40 h42 h43 h44 => ?_)
            obtain rfl : j41 = x37.toInt.toNat := by omega
            have h45 : x40.toInt % 256 = T x37.toInt.toNat := by rw [h43]; exact congrFun hT _
            clear h43
            refine lv_aload_n hx hb dX9_isWord_47 rfl (lv_at hl 2 rfl) ?_
            refine lv_iload_n hx hb dX9_isWord_48 rfl (lv_at hl 0 rfl) ?_
            refine cI (va_runV (C := RJ0) (As := [.int v2_28]) (rest := [.int x40]) ⟨hx, hb, hml, hown, hA⟩ (k_J0_charAt_5068e l dC dI dA sz X Γ hU g kk hkk v2_28   (by omega)) ⟨callB_of 1 hA (al_A wd_2_144) rfl rfl rfl (hA _ wd_1_10) (hA _ wd_5_95) (by decide +kernel) ⟨Nat.le_of_ble_eq_true rfl, Nat.le_of_ble_eq_true rfl⟩, hA _ wd_2_142, hA _ wd_2_143⟩ ⟨bl, str_recv hES hS hkk, fun U hU9 hW9 => ⟨rfl, by rw [hU9]; exact hG, hE.go hS hU9 hW9⟩⟩ rfl rfl hl.1 rfl (lv_room (Nat.le_of_ble_eq_true rfl)) dX9_isWord_49 ⟨Nat.zero_le _, Nat.zero_le _⟩) hS (fun x48 u46 H locs w47 hG hS => ?_)
            obtain ⟨eu49, w47⟩ := w47
            rw [eu49] at hG
            have hch9 : x48.toInt = ((sB kk).getD v2_28.toInt.toNat 0).toInt := by rw [w47]
            have htx9 : x40.toInt % 256 = T ((g 116 0).toNat + v2_28.toInt.toNat) := by rw [show (g 116 0).toNat + v2_28.toInt.toNat = x37.toInt.toNat by omega]; omega
            have hbd9 := sB_rg kk hkk v2_28.toInt.toNat
            refine ty_icmp_eq (tgt := 57) hx hb dX9_isWord_52 (by decide) (fun c50 => ?_) (fun c50 => ?_)
            · skip
              obtain ⟨x51, h52⟩ : ∃ y : Int32, y = v2_28 + Int32.ofInt (1) := ⟨_, rfl⟩
              try have h53 : x51.toInt = v2_28.toInt + (1) := ty_inc h52 (by decide) (by omega) (by omega)
              refine lv_iinc (v := x51) (lv' := [(2, .int x51), (0, .ref h0), (1, .ref (dI 100 kk))]) hx hb dX9_isWord_57 hl (k := 0) rfl h52.symm (by decide) rfl (fun ls hl => ?_)
              refine lv_goto (tgt := 28) hx hb dX9_isWord_60 (by decide) ?_
              exact ih_28 x51 _ _ ls (by omega) (by omega) (fun i hi => by by_cases e9 : i = v2_28.toInt.toNat; (rw [e9]; omega); exact hq0 i (by omega)) hG hS (lv_sub hl [0, 1, 2] rfl)
            · skip
              refine ty_iconst hx hb (0) dX9_isWord_55 (by decide) (fun x54 h55 => ?_)
              exact W.zret (v := x54) hx hb hr (ty_nb (by omega)).1 (fun t ht hW => ⟨⟨x54, g, rfl, ⟨rfl, (by omega), (by rw [show decide (x54.toInt = 1) = false from decide_eq_false (by omega)]; exact pz_Wf3 (x := (pz_m g)) (i := v2_28.toInt.toNat) (by omega) (by show T ((g 116 0).toNat + v2_28.toInt.toNat) ≠ ((sB kk).getD v2_28.toInt.toNat 0).toInt; omega))⟩, ok1 ht hG⟩, hS.F ht⟩) hS.2.2 dX9_isWord_56
      exact L_28 ((((sB kk).length : Int) - x23.toInt) + 1).toNat x23 _ _ ls (by omega) (by omega) (fun i hi => absurd hi (by omega)) hG hS (lv_sub hl [0, 1, 2] rfl)
    · skip
      refine ty_iconst hx hb (0) dX9_isWord_24 (by decide) (fun x56 h57 => ?_)
      exact W.zret (v := x56) hx hb hr (ty_nb (by omega)).1 (fun t ht hW => ⟨⟨x56, g, rfl, ⟨rfl, (by omega), (by rw [show decide (x56.toInt = 1) = false from decide_eq_false (by omega)]; exact pz_Wf2 (x := (pz_m g)) (show g 115 0 - g 116 0 ≠ ((sB kk).length : Int) by omega))⟩, ok1 ht hG⟩, hS.F ht⟩) hS.2.2 dX9_isWord_25

set_option maxHeartbeats 4000000 in
set_option maxRecDepth 100000 in
/-- WeekBankModel.fails:  -/
theorem k_X9_fails (l : Launch) (dC : Nat → ClassId) (dI : Nat → Nat → Nat) (dA : Nat → ClassId) (sz : Nat) (X : va_W) (Γ : ty_G) (hU : Un Γ) (g : gh) (h0 : Nat) (t_h0 : ty Γ h0 30) (p1 : Int32) (hk : p1.toInt ≠ 0) : Met l yX9_fails (.code yX9_fails cX9_fails 2 (Option.none : Option Jvm.ClassFile.FieldType) :: AL) ({ frames := 0, cells := 0, slots := 0, locals := 0 }) (PCx dC dI dA sz X Γ g [.ref h0, .int p1]) (va_Qv (fun (u : gh) => (∀ c j : Nat, c ≠ 119 → c ≠ 120 → u c j = g c j) ∧ ((g 119 0 ≠ 0 → u 119 0 = g 119 0) ∧ (g 119 0 = 0 → u 119 0 = p1.toInt) ∧ (u 115 0 = u 115 0 ∧ u 116 0 = u 116 0 ∧ u 117 0 = u 117 0 ∧ u 118 0 = u 118 0 ∧ u 119 0 = u 119 0 ∧ u 120 0 = u 120 0)) ∧ ((g 119 0 = 0 → pz_m u = pz_bl p1.toInt (pz_m g)) ∧ (g 119 0 ≠ 0 → pz_m u = pz_m g))) (okb dC dI dA sz X Γ) (ty_A sz)) 0 0 (ty_A sz) := by
  refine Met.ofW (cc := cX9_fails) (maxL := 2) (ret := (Option.none : Option Jvm.ClassFile.FieldType)) (by decide) rfl ?_
  intro p e s m args below meth c s₁ B hml hv
  obtain ⟨rfl, hG, hE⟩ := hv
  have hx := B.exec
  have hb := B.bytes
  have hr := B.returns
  have hts := atoms_spec B.pre
  have hA : ∀ w ∈ AL, w.before _ s = true := fun w h => hts w (List.mem_cons_of_mem _ h)
  have hown : s.vm.findClass RX9 = some m.cls := findClass_of_methodNamed B.named
  have hlocks := B.notSynchronized
  have hS : va_S (ty_A sz) s.heap s.heap [] := va_S.rf
  have hl := lv_entry ([.ref h0, .int p1]) (n := 2) (Nat.le_of_ble_eq_true rfl)
  rw [lg_entry_eq]
  generalize (lg_sl ([.ref h0, .int p1]) ++ List.replicate (2 - (lg_sl ([.ref h0, .int p1])).length) Slot.unset).toArray = ls at hl ⊢
  have hl : lv_has ls 2 [(0, .ref h0), (1, .int p1)] := hl
  refine lv_aload_n hx hb dX9_fails_0 rfl (lv_at hl 0 rfl) ?_
  refine get_X9_19 hx hb hA hown hE hG t_h0 wd_4_149 dX9_fails_1 (fun x1 h2 => ?_)
  refine ty_if_eq (tgt := 8) hx hb dX9_fails_4 (by decide) (fun c4 => ?_) (fun c4 => ?_)
  · skip
    refine lv_aload_n hx hb dX9_fails_8 rfl (lv_at hl 0 rfl) ?_
    refine lv_iload_n hx hb dX9_fails_9 rfl (lv_at hl 1 rfl) ?_
    refine put_X9_19 hx hb hA hown hE hG hS hU t_h0 wd_4_149 dX9_fails_10 (fun H locs hG hS => ?_)
    refine lv_aload_n hx hb dX9_fails_13 rfl (lv_at hl 0 rfl) ?_
    refine lv_aload_n hx hb dX9_fails_14 rfl (lv_at hl 0 rfl) ?_
    refine get_X9_16 hx hb hA hown hE hG t_h0 wd_4_146 dX9_fails_15 (fun x5 h6 => ?_)
    replace h6 : x5.toInt = g 116 0 := by rw [h6, gs_c _ _ _ _ (by decide)]
    refine put_X9_20 hx hb hA hown hE hG hS hU t_h0 wd_4_150 dX9_fails_18 (fun H locs hG hS => ?_)
    have e8 : (gs (gs g 119 0 p1.toInt) 120 0 x5.toInt) 115 0 = g 115 0 := by rw [gs_c _ _ _ _ (by decide), gs_c _ _ _ _ (by decide)]
    have e9 : (gs (gs g 119 0 p1.toInt) 120 0 x5.toInt) 116 0 = g 116 0 := by rw [gs_c _ _ _ _ (by decide), gs_c _ _ _ _ (by decide)]
    have e10 : (gs (gs g 119 0 p1.toInt) 120 0 x5.toInt) 117 0 = g 117 0 := by rw [gs_c _ _ _ _ (by decide), gs_c _ _ _ _ (by decide)]
    have e11 : (gs (gs g 119 0 p1.toInt) 120 0 x5.toInt) 118 0 = g 118 0 := by rw [gs_c _ _ _ _ (by decide), gs_c _ _ _ _ (by decide)]
    have e12 : (gs (gs g 119 0 p1.toInt) 120 0 x5.toInt) 119 0 = p1.toInt := by rw [gs_c _ _ _ _ (by decide), gs_self]
    have e13 : (gs (gs g 119 0 p1.toInt) 120 0 x5.toInt) 120 0 = x5.toInt := by rw [gs_self]
    exact W.vret hx hb hr (fun t ht hW => ⟨⟨(gs (gs g 119 0 p1.toInt) 120 0 x5.toInt), rfl, ⟨(fun c j h119 h120 => by rw [gs_c _ _ _ _ h120, gs_c _ _ _ _ h119]), (by omega), (⟨fun _ => pz_mk (show (gs (gs g 119 0 p1.toInt) 120 0 x5.toInt) 115 0 = g 115 0 by omega) (show (gs (gs g 119 0 p1.toInt) 120 0 x5.toInt) 116 0 = g 116 0 by omega) (show pz_s ((gs (gs g 119 0 p1.toInt) 120 0 x5.toInt) 117 0) = pz_s (g 117 0) by rw [show (gs (gs g 119 0 p1.toInt) 120 0 x5.toInt) 117 0 = g 117 0 by omega]) (show (gs (gs g 119 0 p1.toInt) 120 0 x5.toInt) 118 0 = g 118 0 by omega) (show (gs (gs g 119 0 p1.toInt) 120 0 x5.toInt) 119 0 = p1.toInt by omega) (show (if (gs (gs g 119 0 p1.toInt) 120 0 x5.toInt) 119 0 = 0 then (-1 : Int) else (gs (gs g 119 0 p1.toInt) 120 0 x5.toInt) 120 0) = g 116 0 by rw [if_neg (by omega)]; omega), fun q => absurd q (by omega)⟩)⟩, ok1 ht hG⟩, hS.F ht⟩) hS.2.2 dX9_fails_21
  · skip
    exact W.vret hx hb hr (fun t ht hW => ⟨⟨g, rfl, ⟨(fun c j h119 h120 => by rfl), (by omega), (⟨fun q => absurd q (by omega), fun _ => rfl⟩)⟩, ok1 ht hG⟩, hS.F ht⟩) hS.2.2 dX9_fails_7

set_option maxHeartbeats 4000000 in
set_option maxRecDepth 100000 in
/-- WeekBankModel.number:  -/
theorem k_X9_number (l : Launch) (dC : Nat → ClassId) (dI : Nat → Nat → Nat) (dA : Nat → ClassId) (sz : Nat) (X : va_W) (Γ : ty_G) (hU : Un Γ) (g : gh) (h0 : Nat) (t_h0 : ty Γ h0 30) (p1 : Int32) (p2 : Int32) (T : Nat → Int) (N9 : Nat) (hp : 0 ≤ g 116 0 ∧ g 116 0 ≤ g 115 0 ∧ g 115 0 ≤ g 114 0 ∧ g 114 0 ≤ 300) (hf : 0 ≤ g 119 0 ∧ g 119 0 ≤ 3) (hT : pz_t g = T) (hN : g 114 0 = (N9 : Int)) : Met l yX9_number (.code yX9_number cX9_number 4 (Option.some Jvm.ClassFile.FieldType.int) :: AL) ({ frames := 2, cells := 0, slots := 0, locals := 42 }) (PCx dC dI dA sz X Γ g [.ref h0, .int p1, .int p2]) (va_Qi (fun (r : Int32) (u : gh) => (∀ c j : Nat, c ≠ 115 → c ≠ 116 → c ≠ 117 → c ≠ 118 → c ≠ 119 → c ≠ 120 → u c j = g c j) ∧ ((0 ≤ u 116 0 ∧ u 116 0 ≤ u 115 0 ∧ u 115 0 ≤ g 114 0) ∧ (0 ≤ u 119 0 ∧ u 119 0 ≤ 3)) ∧ (pz_m u = (pz_N T N9 p1.toInt p2.toInt (pz_m g)).1 ∧ r.toInt = (pz_N T N9 p1.toInt p2.toInt (pz_m g)).2)) (okb dC dI dA sz X Γ) (ty_A sz)) 0 0 (ty_A sz) := by
  refine Met.ofW (cc := cX9_number) (maxL := 4) (ret := (Option.some Jvm.ClassFile.FieldType.int)) (by decide) rfl ?_
  intro p e s m args below meth c s₁ B hml hv
  obtain ⟨rfl, hG, hE⟩ := hv
  have hx := B.exec
  have hb := B.bytes
  have hr := B.returns
  have hts := atoms_spec B.pre
  have hA : ∀ w ∈ AL, w.before _ s = true := fun w h => hts w (List.mem_cons_of_mem _ h)
  have hown : s.vm.findClass RX9 = some m.cls := findClass_of_methodNamed B.named
  have hlocks := B.notSynchronized
  have hS : va_S (ty_A sz) s.heap s.heap [] := va_S.rf
  have hl := lv_entry ([.ref h0, .int p1, .int p2]) (n := 4) (Nat.le_of_ble_eq_true rfl)
  rw [lg_entry_eq]
  generalize (lg_sl ([.ref h0, .int p1, .int p2]) ++ List.replicate (4 - (lg_sl ([.ref h0, .int p1, .int p2])).length) Slot.unset).toArray = ls at hl ⊢
  have hl : lv_has ls 4 [(0, .ref h0), (1, .int p1), (2, .int p2)] := hl
  refine lv_aload_n hx hb dX9_number_0 rfl (lv_at hl 0 rfl) ?_
  refine get_X9_19 hx hb hA hown hE hG t_h0 wd_4_149 dX9_number_1 (fun x1 h2 => ?_)
  refine ty_if_ne (tgt := 20) hx hb dX9_number_4 (by decide) (fun c4 => ?_) (fun c4 => ?_)
  · skip
    refine lv_aload_n hx hb dX9_number_20 rfl (lv_at hl 0 rfl) ?_
    refine get_X9_19 hx hb hA hown hE hG t_h0 wd_4_149 dX9_number_21 (fun x5 h6 => ?_)
    refine ty_if_ne (tgt := 44) hx hb dX9_number_24 (by decide) (fun c8 => ?_) (fun c8 => ?_)
    · skip
      refine lv_aload_n hx hb dX9_number_44 rfl (lv_at hl 0 rfl) ?_
      refine get_X9_19 hx hb hA hown hE hG t_h0 wd_4_149 dX9_number_45 (fun x9 h10 => ?_)
      refine ty_if_eq (tgt := 53) hx hb dX9_number_48 (by decide) (fun c12 => ?_) (fun c12 => ?_)
      · exfalso; omega
      · skip
        refine ty_iconst hx hb (0) dX9_number_51 (by decide) (fun x13 h14 => ?_)
        exact W.iret (v := x13) hx hb hr (fun t ht hW => ⟨⟨x13, g, rfl, ⟨(fun c j h115 h116 h117 h118 h119 h120 => by rfl), (by omega), (by rw [pz_N1 (x := pz_m g) (show g 119 0 ≠ 0 by omega)]; exact ⟨rfl, show x13.toInt = 0 by omega⟩)⟩, ok1 ht hG⟩, hS.F ht⟩) hS.2.2 dX9_number_52
    · exfalso; omega
  · skip
    refine lv_aload_n hx hb dX9_number_7 rfl (lv_at hl 0 rfl) ?_
    refine get_X9_17 hx hb hA hown hE hG t_h0 wd_4_147 dX9_number_8 (fun x15 h16 => ?_)
    refine ty_iconst hx hb (2) dX9_number_11 (by decide) (fun x18 h19 => ?_)
    refine ty_icmp_eq (tgt := 20) hx hb dX9_number_12 (by decide) (fun c20 => ?_) (fun c20 => ?_)
    · skip
      refine lv_aload_n hx hb dX9_number_20 rfl (lv_at hl 0 rfl) ?_
      refine get_X9_19 hx hb hA hown hE hG t_h0 wd_4_149 dX9_number_21 (fun x21 h22 => ?_)
      refine ty_if_ne (tgt := 44) hx hb dX9_number_24 (by decide) (fun c24 => ?_) (fun c24 => ?_)
      · exfalso; omega
      · skip
        refine lv_aload_n hx hb dX9_number_27 rfl (lv_at hl 0 rfl) ?_
        refine get_X9_18 hx hb hA hown hE hG t_h0 wd_4_148 dX9_number_28 (fun x25 h26 => ?_)
        refine lv_iload_n hx hb dX9_number_31 rfl (lv_at hl 1 rfl) ?_
        refine lv_iload_n hx hb dX9_number_32 rfl (lv_at hl 2 rfl) ?_
        refine cI (va_runS (As := [.int x25, .int p1, .int p2]) (rest := []) ⟨hx, hb, hml, hown, hA⟩ (k_X9_within l dC dI dA sz X Γ hU g x25 p1 p2   ) ⟨callB_of 3 hA (al_A wd_5_38) rfl rfl rfl (hA _ wd_1_7) (hA _ wd_5_36) (by decide +kernel) ⟨Nat.le_of_ble_eq_true rfl, Nat.le_of_ble_eq_true rfl⟩, hA _ wd_5_37⟩ ⟨bl, fun U hU9 hW9 => ⟨rfl, by rw [hU9]; exact hG, hE.go hS hU9 hW9⟩⟩ rfl rfl hl.1 rfl (lv_room (Nat.le_of_ble_eq_true rfl)) dX9_number_33 ⟨Nat.zero_le _, Nat.zero_le _⟩) hS (fun x30 u28 H locs w29 hG hS => ?_)
        obtain ⟨eu31, w29⟩ := w29
        rw [eu31] at hG
        rcases pz_or w29 with w29 | w29
        · skip
          refine ty_if_ne (tgt := 44) hx hb dX9_number_36 (by decide) (fun c32 => ?_) (fun c32 => ?_)
          · skip
            refine lv_aload_n hx hb dX9_number_44 rfl (lv_at hl 0 rfl) ?_
            refine get_X9_19 hx hb hA hown hE hG t_h0 wd_4_149 dX9_number_45 (fun x33 h34 => ?_)
            refine ty_if_eq (tgt := 53) hx hb dX9_number_48 (by decide) (fun c36 => ?_) (fun c36 => ?_)
            · skip
              refine lv_aload_n hx hb dX9_number_53 rfl (lv_at hl 0 rfl) ?_
              refine get_X9_18 hx hb hA hown hE hG t_h0 wd_4_148 dX9_number_54 (fun x37 h38 => ?_)
              refine lv_istore_n (lv' := [(3, .int x37), (0, .ref h0), (1, .int p1), (2, .int p2)]) hx hb dX9_number_57 rfl hl (by decide) rfl (fun ls hl => ?_)
              refine lv_aload_n hx hb dX9_number_58 rfl (lv_at hl 1 rfl) ?_
              refine cV (va_runV (C := RX9) (As := []) (rest := []) ⟨hx, hb, hml, hown, hA⟩ (k_X9_next l dC dI dA sz X Γ hU g h0 t_h0 T N9  (by omega) (hT) (by omega)) ⟨callB_of 0 hA (al_A wd_5_74) rfl rfl rfl (hA _ wd_1_7) (hA _ wd_5_71) (by decide +kernel) ⟨Nat.le_of_ble_eq_true rfl, Nat.le_of_ble_eq_true rfl⟩, hA _ wd_5_73, hA _ ws_39⟩ ⟨bl, recv_X9 hE hG t_h0, fun U hU9 hW9 => ⟨rfl, by rw [hU9]; exact hG, hE.go hS hU9 hW9⟩⟩ rfl rfl hl.1 rfl (lv_room (Nat.le_of_ble_eq_true rfl)) dX9_number_59 ⟨Nat.zero_le _, Nat.zero_le _⟩) hS (fun u40 H locs w41 hG hS => ?_)
              obtain ⟨hf43, w41, hq42⟩ := w41
              refine lv_iload_n hx hb dX9_number_62 rfl (lv_at hl 0 rfl) ?_
              have hk44 : u40 119 0 = g 119 0 := hf43 119 0 (by decide) (by decide) (by decide) (by decide)
              exact W.iret (v := x37) hx hb hr (fun t ht hW => ⟨⟨x37, u40, rfl, ⟨(fun c j h115 h116 h117 h118 h119 h120 => by rw [hf43 c j h115 h116 h117 h118]), (by omega), (by rw [pz_N4 (x := pz_m g) (show g 119 0 = 0 by omega) (show pz_s (g 117 0) = 2 from pz_s2.mpr (by omega)) (show ¬ (g 118 0 < p1.toInt ∨ p2.toInt < g 118 0) by omega)]; exact ⟨hq42, show x37.toInt = g 118 0 by omega⟩)⟩, ok1 ht hG⟩, hS.F ht⟩) hS.2.2 dX9_number_63
            · exfalso; omega
          · exfalso; omega
        · skip
          refine ty_if_ne (tgt := 44) hx hb dX9_number_36 (by decide) (fun c45 => ?_) (fun c45 => ?_)
          · exfalso; omega
          · skip
            refine lv_aload_n hx hb dX9_number_39 rfl (lv_at hl 0 rfl) ?_
            refine ty_iconst hx hb (2) dX9_number_40 (by decide) (fun x46 h47 => ?_)
            refine cV (va_runV (C := RX9) (As := [.int x46]) (rest := []) ⟨hx, hb, hml, hown, hA⟩ (k_X9_fails l dC dI dA sz X Γ hU g h0 t_h0 x46   (by omega)) ⟨callB_of 1 hA (al_A wd_5_102) rfl rfl rfl (hA _ wd_1_7) (hA _ wd_5_99) (by decide +kernel) ⟨Nat.le_of_ble_eq_true rfl, Nat.le_of_ble_eq_true rfl⟩, hA _ wd_5_101, hA _ ws_43⟩ ⟨bl, recv_X9 hE hG t_h0, fun U hU9 hW9 => ⟨rfl, by rw [hU9]; exact hG, hE.go hS hU9 hW9⟩⟩ rfl rfl hl.1 rfl (lv_room (Nat.le_of_ble_eq_true rfl)) dX9_number_41 ⟨Nat.zero_le _, Nat.zero_le _⟩) hS (fun u48 H locs w49 hG hS => ?_)
            obtain ⟨hf51, w49, hq50⟩ := w49
            refine lv_aload_n hx hb dX9_number_44 rfl (lv_at hl 0 rfl) ?_
            refine get_X9_19 hx hb hA hown hE hG t_h0 wd_4_149 dX9_number_45 (fun x52 h53 => ?_)
            refine ty_if_eq (tgt := 53) hx hb dX9_number_48 (by decide) (fun c55 => ?_) (fun c55 => ?_)
            · exfalso; omega
            · skip
              refine ty_iconst hx hb (0) dX9_number_51 (by decide) (fun x56 h57 => ?_)
              have hk58 : u48 115 0 = g 115 0 := hf51 115 0 (by decide) (by decide)
              have hk59 : u48 116 0 = g 116 0 := hf51 116 0 (by decide) (by decide)
              exact W.iret (v := x56) hx hb hr (fun t ht hW => ⟨⟨x56, u48, rfl, ⟨(fun c j h115 h116 h117 h118 h119 h120 => by rw [hf51 c j h119 h120]), (by omega), (by rw [pz_N3 (x := pz_m g) (show g 119 0 = 0 by omega) (show pz_s (g 117 0) = 2 from pz_s2.mpr (by omega)) (show g 118 0 < p1.toInt ∨ p2.toInt < g 118 0 by omega)]; refine ⟨?_, show x56.toInt = 0 by omega⟩; rw [hq50.1 (by omega), show x46.toInt = 2 by omega])⟩, ok1 ht hG⟩, hS.F ht⟩) hS.2.2 dX9_number_52
    · skip
      refine lv_aload_n hx hb dX9_number_15 rfl (lv_at hl 0 rfl) ?_
      refine ty_iconst hx hb (1) dX9_number_16 (by decide) (fun x60 h61 => ?_)
      refine cV (va_runV (C := RX9) (As := [.int x60]) (rest := []) ⟨hx, hb, hml, hown, hA⟩ (k_X9_fails l dC dI dA sz X Γ hU g h0 t_h0 x60   (by omega)) ⟨callB_of 1 hA (al_A wd_5_102) rfl rfl rfl (hA _ wd_1_7) (hA _ wd_5_99) (by decide +kernel) ⟨Nat.le_of_ble_eq_true rfl, Nat.le_of_ble_eq_true rfl⟩, hA _ wd_5_101, hA _ ws_43⟩ ⟨bl, recv_X9 hE hG t_h0, fun U hU9 hW9 => ⟨rfl, by rw [hU9]; exact hG, hE.go hS hU9 hW9⟩⟩ rfl rfl hl.1 rfl (lv_room (Nat.le_of_ble_eq_true rfl)) dX9_number_17 ⟨Nat.zero_le _, Nat.zero_le _⟩) hS (fun u62 H locs w63 hG hS => ?_)
      obtain ⟨hf65, w63, hq64⟩ := w63
      refine lv_aload_n hx hb dX9_number_20 rfl (lv_at hl 0 rfl) ?_
      refine get_X9_19 hx hb hA hown hE hG t_h0 wd_4_149 dX9_number_21 (fun x66 h67 => ?_)
      refine ty_if_ne (tgt := 44) hx hb dX9_number_24 (by decide) (fun c69 => ?_) (fun c69 => ?_)
      · skip
        refine lv_aload_n hx hb dX9_number_44 rfl (lv_at hl 0 rfl) ?_
        refine get_X9_19 hx hb hA hown hE hG t_h0 wd_4_149 dX9_number_45 (fun x70 h71 => ?_)
        refine ty_if_eq (tgt := 53) hx hb dX9_number_48 (by decide) (fun c73 => ?_) (fun c73 => ?_)
        · exfalso; omega
        · skip
          refine ty_iconst hx hb (0) dX9_number_51 (by decide) (fun x74 h75 => ?_)
          have hk76 : u62 115 0 = g 115 0 := hf65 115 0 (by decide) (by decide)
          have hk77 : u62 116 0 = g 116 0 := hf65 116 0 (by decide) (by decide)
          exact W.iret (v := x74) hx hb hr (fun t ht hW => ⟨⟨x74, u62, rfl, ⟨(fun c j h115 h116 h117 h118 h119 h120 => by rw [hf65 c j h119 h120]), (by omega), (by rw [pz_N2 (x := pz_m g) (show g 119 0 = 0 by omega) (show pz_s (g 117 0) ≠ 2 from fun q => absurd (pz_s2.mp q) (by omega))]; refine ⟨?_, show x74.toInt = 0 by omega⟩; rw [hq64.1 (by omega), show x60.toInt = 1 by omega])⟩, ok1 ht hG⟩, hS.F ht⟩) hS.2.2 dX9_number_52
      · exfalso; omega
