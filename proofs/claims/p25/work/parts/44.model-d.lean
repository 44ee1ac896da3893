set_option maxHeartbeats 4000000 in
set_option maxRecDepth 100000 in
/-- WeekBankModel.nextInRush:  -/
theorem k_X9_nextInRush (l : Launch) (dC : Nat → ClassId) (dI : Nat → Nat → Nat) (dA : Nat → ClassId) (sz : Nat) (X : va_W) (Γ : ty_G) (hU : Un Γ) (g : gh) (h0 : Nat) (t_h0 : ty Γ h0 30) (m4 : 0 ≤ g 104 0 ∧ g 104 0 ≤ 10) : Met l yX9_nextInRush (.code yX9_nextInRush cX9_nextInRush 3 (Option.some Jvm.ClassFile.FieldType.int) :: AL) ({ frames := 0, cells := 0, slots := 0, locals := 0 }) (PCx dC dI dA sz X Γ g [.ref h0]) (va_Qi (fun (r : Int32) (u : gh) => u = g ∧ ((r.toInt = -1 ∨ (0 ≤ r.toInt ∧ r.toInt < g 104 0)) ∧ (r.toInt = fi_f (rl_f (g 108) (g 135) (g 144)) (g 145) ((g 104) 0).toNat))) (okb dC dI dA sz X Γ) (ty_A sz)) 0 0 (ty_A sz) := by
  refine Met.ofW (cc := cX9_nextInRush) (maxL := 3) (ret := (Option.some Jvm.ClassFile.FieldType.int)) (by decide) rfl ?_
  intro p e s m args below meth c s₁ B hml hv
  obtain ⟨rfl, hG, hE⟩ := hv
  have hx := B.exec
  have hb := B.bytes
  have hr := B.returns
  have hts := atoms_spec B.pre
  have hA : ∀ w ∈ AL, w.before _ s = true := fun w h => hts w (List.mem_cons_of_mem _ h)
  have hown : s.vm.findClass RX9 = some m.cls := findClass_of_methodNamed B.named
  have hlocks := B.notSynchronized
  have hS : va_S (ty_A sz) s.heap s.heap [] := va_S.rf
  have hl := lv_entry ([.ref h0]) (n := 3) (Nat.le_of_ble_eq_true rfl)
  rw [lg_entry_eq]
  generalize (lg_sl ([.ref h0]) ++ List.replicate (3 - (lg_sl ([.ref h0])).length) Slot.unset).toArray = ls at hl ⊢
  have hl : lv_has ls 3 [(0, .ref h0)] := hl
  refine ty_iconst hx hb (-1) dX9_nextInRush_0 (by decide) (fun x1 h2 => ?_)
  refine lv_istore_n (lv' := [(1, .int x1), (0, .ref h0)]) hx hb dX9_nextInRush_1 rfl hl (by decide) rfl (fun ls hl => ?_)
  refine ty_iconst hx hb (0) dX9_nextInRush_2 (by decide) (fun x3 h4 => ?_)
  refine lv_istore_n (lv' := [(2, .int x3), (1, .int x1), (0, .ref h0)]) hx hb dX9_nextInRush_3 rfl hl (by decide) rfl (fun ls hl => ?_)
  have L_4 : ∀ (n : Nat) (v2_4 : Int32) (v1_4 : Int32) (H : Heap) (locs : List Loc) (ls : Array Slot), (g 104 0 - v2_4.toInt : Int) < n → 0 ≤ v2_4.toInt ∧ v2_4.toInt ≤ g 104 0 → v1_4.toInt = -1 ∨ (0 ≤ v1_4.toInt ∧ v1_4.toInt < v2_4.toInt) → (v1_4.toInt = fi_f (rl_f (g 108) (g 135) (g 144)) (g 145) v2_4.toInt.toNat) → ty_ok (dC, dI) vwCl Γ (TP dA Γ g) sz X H → va_S (ty_A sz) s.heap H locs → lv_has ls 3 [(2, .int v2_4), (1, .int v1_4), (0, .ref h0)] → W p l e (headSpec (.code yX9_nextInRush cX9_nextInRush 3 (Option.some Jvm.ClassFile.FieldType.int) :: AL) ({ frames := 0, cells := 0, slots := 0, locals := 0 })).room s m ([.ref h0] : List Value).toArray below meth c H locs 0 0 (MQ below (va_Qi (fun (r : Int32) (u : gh) => u = g ∧ ((r.toInt = -1 ∨ (0 ≤ r.toInt ∧ r.toInt < g 104 0)) ∧ (r.toInt = fi_f (rl_f (g 108) (g 135) (g 144)) (g 145) ((g 104) 0).toNat))) (okb dC dI dA sz X Γ) (ty_A sz)) ([.ref h0] : List Value).toArray s 0 0 (ty_A sz)) (F0 m 4 ls []) := by
    intro n
    induction n with
    | zero => intro v2_4 v1_4 H locs ls hm hi0 hi1 hq0 hG hS hl; exfalso; omega
    | succ n ih_4 =>
      intro v2_4 v1_4 H locs ls hm hi0 hi1 hq0 hG hS hl
      refine lv_iload_n hx hb dX9_nextInRush_4 rfl (lv_at hl 0 rfl) ?_
      refine lv_aload_n hx hb dX9_nextInRush_5 rfl (lv_at hl 2 rfl) ?_
      refine get_X9_4 hx hb hA hown hE hG t_h0 wd_4_134 dX9_nextInRush_6 (fun x6 h7 => ?_)
      refine ty_icmp_ge (tgt := 78) hx hb dX9_nextInRush_9 (by decide) (fun c9 => ?_) (fun c9 => ?_)
      · skip
        refine lv_iload_n hx hb dX9_nextInRush_78 rfl (lv_at hl 1 rfl) ?_
        exact W.iret (v := v1_4) hx hb hr (fun t ht hW => ⟨⟨v1_4, g, rfl, ⟨rfl, (⟨by omega, by rw [hq0, show v2_4.toInt.toNat = (g 104 0).toNat by omega]⟩)⟩, ok1 ht hG⟩, hS.F ht⟩) hS.2.2 dX9_nextInRush_79
      · skip
        refine lv_aload_n hx hb dX9_nextInRush_12 rfl (lv_at hl 2 rfl) ?_
        refine get_X9_44 hx hb hA hown hE hG t_h0 wd_4_174 dX9_nextInRush_13 (fun b10 (t_b10 : ty Γ b10 144) => ?_)
        refine lv_iload_n hx hb dX9_nextInRush_16 rfl (lv_at hl 0 rfl) ?_
        refine ald_mZ hx hb hE hG 44 rfl (n := 10) rfl (lo := 0) (hi := 1) rfl rfl t_b10 (by omega) dX9_nextInRush_17 (fun j12 x11 h13 h14 h15 => ?_)
        obtain rfl : j12 = v2_4.toInt.toNat := by omega
        replace h14 : x11.toInt = g 144 v2_4.toInt.toNat := h14
        refine ty_if_ne (tgt := 72) hx hb dX9_nextInRush_18 (by decide) (fun c16 => ?_) (fun c16 => ?_)
        · skip
          obtain ⟨x17, h18⟩ : ∃ y : Int32, y = v2_4 + Int32.ofInt (1) := ⟨_, rfl⟩
          try have h19 : x17.toInt = v2_4.toInt + (1) := ty_inc h18 (by decide) (by omega) (by omega)
          refine lv_iinc (v := x17) (lv' := [(2, .int x17), (1, .int v1_4), (0, .ref h0)]) hx hb dX9_nextInRush_72 hl (k := 0) rfl h18.symm (by decide) rfl (fun ls hl => ?_)
          refine lv_goto (tgt := 4) hx hb dX9_nextInRush_75 (by decide) ?_
          exact ih_4 x17 v1_4 _ _ ls (by omega) (by omega) (by omega) (fi_no hq0 (fun q => q.1 (rl_n (by omega))) (by omega)) hG hS (lv_sub hl [0, 1, 2] rfl)
        · skip
          refine lv_aload_n hx hb dX9_nextInRush_21 rfl (lv_at hl 2 rfl) ?_
          refine get_X9_8 hx hb hA hown hE hG t_h0 wd_4_138 dX9_nextInRush_22 (fun b20 (t_b20 : ty Γ b20 108) => ?_)
          refine lv_iload_n hx hb dX9_nextInRush_25 rfl (lv_at hl 0 rfl) ?_
          refine ald_mZ hx hb hE hG 8 rfl (n := 10) rfl (lo := 0) (hi := 1) rfl rfl t_b20 (by omega) dX9_nextInRush_26 (fun j22 x21 h23 h24 h25 => ?_)
          obtain rfl : j22 = v2_4.toInt.toNat := by omega
          replace h24 : x21.toInt = g 108 v2_4.toInt.toNat := h24
          refine ty_if_ne (tgt := 72) hx hb dX9_nextInRush_27 (by decide) (fun c26 => ?_) (fun c26 => ?_)
          · skip
            obtain ⟨x27, h28⟩ : ∃ y : Int32, y = v2_4 + Int32.ofInt (1) := ⟨_, rfl⟩
            try have h29 : x27.toInt = v2_4.toInt + (1) := ty_inc h28 (by decide) (by omega) (by omega)
            refine lv_iinc (v := x27) (lv' := [(2, .int x27), (1, .int v1_4), (0, .ref h0)]) hx hb dX9_nextInRush_72 hl (k := 0) rfl h28.symm (by decide) rfl (fun ls hl => ?_)
            refine lv_goto (tgt := 4) hx hb dX9_nextInRush_75 (by decide) ?_
            exact ih_4 x27 v1_4 _ _ ls (by omega) (by omega) (by omega) (fi_no hq0 (fun q => q.1 (rl_n (by omega))) (by omega)) hG hS (lv_sub hl [0, 1, 2] rfl)
          · skip
            refine lv_aload_n hx hb dX9_nextInRush_30 rfl (lv_at hl 2 rfl) ?_
            refine get_X9_35 hx hb hA hown hE hG t_h0 wd_4_165 dX9_nextInRush_31 (fun b30 (t_b30 : ty Γ b30 135) => ?_)
            refine ty_iconst hx hb (4) dX9_nextInRush_34 (by decide) (fun x31 h32 => ?_)
            refine ty_sipush hx hb (200) dX9_nextInRush_35 (by decide) (fun x33 h34 => ?_)
            refine lv_iload_n hx hb dX9_nextInRush_38 rfl (lv_at hl 0 rfl) ?_
            refine ty_iadd hx hb dX9_nextInRush_39 (fun x35 h36 => ?_)
            try have h37 : x35.toInt = x33.toInt + v2_4.toInt := ty_add h36 (by omega) (by omega)
            refine ty_imul hx hb dX9_nextInRush_40 (fun x38 h39 => ?_)
            try have h40 : x38.toInt = 4 * x35.toInt := ty_mull h39 (by omega) (by omega) (by omega)
            refine ty_iconst hx hb (3) dX9_nextInRush_41 (by decide) (fun x41 h42 => ?_)
            refine ty_iadd hx hb dX9_nextInRush_42 (fun x43 h44 => ?_)
            try have h45 : x43.toInt = x38.toInt + x41.toInt := ty_add h44 (by omega) (by omega)
            refine ald_mI hx hb hE hG 35 rfl (n := 840) rfl (lo := -2147483648) (hi := 2147483647) rfl rfl t_b30 (by omega) dX9_nextInRush_43 (fun j47 x46 h48 h49 h50 => ?_)
            clear h50
            obtain rfl : j47 = x43.toInt.toNat := by omega
            replace h49 : x46.toInt = g 135 x43.toInt.toNat := h49
            replace h49 : x46.toInt = g 135 (4 * (200 + v2_4.toInt.toNat) + 3) := by rw [h49, show x43.toInt.toNat = (4 * (200 + v2_4.toInt.toNat) + 3) by omega]
            refine ty_if_ne (tgt := 50) hx hb dX9_nextInRush_44 (by decide) (fun c51 => ?_) (fun c51 => ?_)
            · skip
              refine lv_iload_n hx hb dX9_nextInRush_50 rfl (lv_at hl 1 rfl) ?_
              refine ty_iconst hx hb (-1) dX9_nextInRush_51 (by decide) (fun x52 h53 => ?_)
              refine ty_icmp_eq (tgt := 70) hx hb dX9_nextInRush_52 (by decide) (fun c54 => ?_) (fun c54 => ?_)
              · skip
                refine lv_iload_n hx hb dX9_nextInRush_70 rfl (lv_at hl 0 rfl) ?_
                refine lv_istore_n (lv' := [(1, .int v2_4), (2, .int v2_4), (0, .ref h0)]) hx hb dX9_nextInRush_71 rfl hl (by decide) rfl (fun ls hl => ?_)
                obtain ⟨x55, h56⟩ : ∃ y : Int32, y = v2_4 + Int32.ofInt (1) := ⟨_, rfl⟩
                try have h57 : x55.toInt = v2_4.toInt + (1) := ty_inc h56 (by decide) (by omega) (by omega)
                refine lv_iinc (v := x55) (lv' := [(2, .int x55), (1, .int v2_4), (0, .ref h0)]) hx hb dX9_nextInRush_72 hl (k := 1) rfl h56.symm (by decide) rfl (fun ls hl => ?_)
                refine lv_goto (tgt := 4) hx hb dX9_nextInRush_75 (by decide) ?_
                exact ih_4 x55 v2_4 _ _ ls (by omega) (by omega) (by omega) (fi_y hq0 ⟨fun q => absurd ((rl_y (by omega)).symm.trans q) (by decide), by omega⟩ (by omega) (by omega)) hG hS (lv_sub hl [0, 1, 2] rfl)
              · skip
                refine lv_aload_n hx hb dX9_nextInRush_55 rfl (lv_at hl 2 rfl) ?_
                refine get_X9_45 hx hb hA hown hE hG t_h0 wd_4_175 dX9_nextInRush_56 (fun b58 (t_b58 : ty Γ b58 145) => ?_)
                refine lv_iload_n hx hb dX9_nextInRush_59 rfl (lv_at hl 0 rfl) ?_
                refine ald_mI hx hb hE hG 45 rfl (n := 10) rfl (lo := -2147483648) (hi := 2147483647) rfl rfl t_b58 (by omega) dX9_nextInRush_60 (fun j60 x59 h61 h62 h63 => ?_)
                clear h63
                obtain rfl : j60 = v2_4.toInt.toNat := by omega
                replace h62 : x59.toInt = g 145 v2_4.toInt.toNat := h62
                refine lv_aload_n hx hb dX9_nextInRush_61 rfl (lv_at hl 2 rfl) ?_
                refine get_X9_45 hx hb hA hown hE hG t_h0 wd_4_175 dX9_nextInRush_62 (fun b64 (t_b64 : ty Γ b64 145) => ?_)
                refine lv_iload_n hx hb dX9_nextInRush_65 rfl (lv_at hl 1 rfl) ?_
                refine ald_mI hx hb hE hG 45 rfl (n := 10) rfl (lo := -2147483648) (hi := 2147483647) rfl rfl t_b64 (by omega) dX9_nextInRush_66 (fun j66 x65 h67 h68 h69 => ?_)
                clear h69
                obtain rfl : j66 = v1_4.toInt.toNat := by omega
                replace h68 : x65.toInt = g 145 v1_4.toInt.toNat := h68
                refine ty_icmp_ge (tgt := 72) hx hb dX9_nextInRush_67 (by decide) (fun c70 => ?_) (fun c70 => ?_)
                · skip
                  obtain ⟨x71, h72⟩ : ∃ y : Int32, y = v2_4 + Int32.ofInt (1) := ⟨_, rfl⟩
                  try have h73 : x71.toInt = v2_4.toInt + (1) := ty_inc h72 (by decide) (by omega) (by omega)
                  refine lv_iinc (v := x71) (lv' := [(2, .int x71), (1, .int v1_4), (0, .ref h0)]) hx hb dX9_nextInRush_72 hl (k := 0) rfl h72.symm (by decide) rfl (fun ls hl => ?_)
                  refine lv_goto (tgt := 4) hx hb dX9_nextInRush_75 (by decide) ?_
                  exact ih_4 x71 v1_4 _ _ ls (by omega) (by omega) (by omega) (fi_no hq0 (by omega) (by omega)) hG hS (lv_sub hl [0, 1, 2] rfl)
                · skip
                  refine lv_iload_n hx hb dX9_nextInRush_70 rfl (lv_at hl 0 rfl) ?_
                  refine lv_istore_n (lv' := [(1, .int v2_4), (2, .int v2_4), (0, .ref h0)]) hx hb dX9_nextInRush_71 rfl hl (by decide) rfl (fun ls hl => ?_)
                  obtain ⟨x74, h75⟩ : ∃ y : Int32, y = v2_4 + Int32.ofInt (1) := ⟨_, rfl⟩
                  try have h76 : x74.toInt = v2_4.toInt + (1) := ty_inc h75 (by decide) (by omega) (by omega)
                  refine lv_iinc (v := x74) (lv' := [(2, .int x74), (1, .int v2_4), (0, .ref h0)]) hx hb dX9_nextInRush_72 hl (k := 1) rfl h75.symm (by decide) rfl (fun ls hl => ?_)
                  refine lv_goto (tgt := 4) hx hb dX9_nextInRush_75 (by decide) ?_
                  exact ih_4 x74 v2_4 _ _ ls (by omega) (by omega) (by omega) (fi_y hq0 ⟨fun q => absurd ((rl_y (by omega)).symm.trans q) (by decide), by omega⟩ (by omega) (by omega)) hG hS (lv_sub hl [0, 1, 2] rfl)
            · skip
              refine lv_goto (tgt := 72) hx hb dX9_nextInRush_47 (by decide) ?_
              obtain ⟨x77, h78⟩ : ∃ y : Int32, y = v2_4 + Int32.ofInt (1) := ⟨_, rfl⟩
              try have h79 : x77.toInt = v2_4.toInt + (1) := ty_inc h78 (by decide) (by omega) (by omega)
              refine lv_iinc (v := x77) (lv' := [(2, .int x77), (1, .int v1_4), (0, .ref h0)]) hx hb dX9_nextInRush_72 hl (k := 0) rfl h78.symm (by decide) rfl (fun ls hl => ?_)
              refine lv_goto (tgt := 4) hx hb dX9_nextInRush_75 (by decide) ?_
              exact ih_4 x77 v1_4 _ _ ls (by omega) (by omega) (by omega) (fi_no hq0 (fun q => q.1 (rl_n (by omega))) (by omega)) hG hS (lv_sub hl [0, 1, 2] rfl)
  exact L_4 ((g 104 0 - x3.toInt) + 1).toNat x3 x1 _ _ ls (by omega) (by omega) (by omega) (by rw [show x3.toInt.toNat = 0 by omega]; show _ = (-1 : Int); omega) hG hS (lv_sub hl [0, 1, 2] rfl)

set_option maxHeartbeats 4000000 in
set_option maxRecDepth 100000 in
/-- WeekBankModel.rush:  -/
theorem k_X9_rush (l : Launch) (dC : Nat → ClassId) (dI : Nat → Nat → Nat) (dA : Nat → ClassId) (sz : Nat) (X : va_W) (Γ : ty_G) (hU : Un Γ) (g : gh) (h0 : Nat) (t_h0 : ty Γ h0 30) (m4 : 0 ≤ g 104 0 ∧ g 104 0 ≤ 10) (m26 : 0 ≤ g 126 0 ∧ g 126 0 ≤ 200) (hIJ : IJ g) : Met l yX9_rush (.code yX9_rush cX9_rush 5 (Option.some Jvm.ClassFile.FieldType.int) :: AL) ({ frames := 2, cells := 0, slots := 0, locals := 45 }) (PCx dC dI dA sz X Γ g [.ref h0]) (va_Qi (fun (r : Int32) (u : gh) => (∀ c j : Nat, c ≠ 100 → c ≠ 106 → c ≠ 107 → c ≠ 132 → c ≠ 134 → c ≠ 135 → c ≠ 144 → c ≠ 145 → u c j = g c j) ∧ (IJ u) ∧ ((u 106, u 107, u 144, u 135, u 132, u 134, r.toInt) = rm_f (g 131) (g 128) (g 129) (g 102) (g 103) (g 108) (lk_f (g 145) (g 107) (g 104 0).toNat) (g 126 0).toNat (g 104 0).toNat (g 104 0).toNat (g 106, g 107, fz (g 144) 0 0 (g 104 0).toNat, g 135, g 132, g 134, 0))) (okb dC dI dA sz X Γ) (ty_A sz)) 0 0 (ty_A sz) := by
  refine Met.ofW (cc := cX9_rush) (maxL := 5) (ret := (Option.some Jvm.ClassFile.FieldType.int)) (by decide) rfl ?_
  intro p e s m args below meth c s₁ B hml hv
  obtain ⟨rfl, hG, hE⟩ := hv
  have hx := B.exec
  have hb := B.bytes
  have hr := B.returns
  have hts := atoms_spec B.pre
  have hA : ∀ w ∈ AL, w.before _ s = true := fun w h => hts w (List.mem_cons_of_mem _ h)
  have hown : s.vm.findClass RX9 = some m.cls := findClass_of_methodNamed B.named
  have hlocks := B.notSynchronized
  have hS : va_S (ty_A sz) s.heap s.heap [] := va_S.rf
  have hl := lv_entry ([.ref h0]) (n := 5) (Nat.le_of_ble_eq_true rfl)
  rw [lg_entry_eq]
  generalize (lg_sl ([.ref h0]) ++ List.replicate (5 - (lg_sl ([.ref h0])).length) Slot.unset).toArray = ls at hl ⊢
  have hl : lv_has ls 5 [(0, .ref h0)] := hl
  refine lv_aload_n hx hb dX9_rush_0 rfl (lv_at hl 0 rfl) ?_
  refine ty_iconst hx hb (0) dX9_rush_1 (by decide) (fun x1 h2 => ?_)
  refine put_X9_0 hx hb hA hown hE hG hS hU t_h0 wd_4_130 dX9_rush_2 (fun H locs hG hS => ?_)
  refine ty_iconst hx hb (0) dX9_rush_5 (by decide) (fun x3 h4 => ?_)
  refine lv_istore_n (lv' := [(1, .int x3), (0, .ref h0)]) hx hb dX9_rush_6 rfl hl (by decide) rfl (fun ls hl => ?_)
  have e6 : (gs g 100 0 x1.toInt) 104 0 = g 104 0 := by rw [gs_c _ _ _ _ (by decide)]
  have L_7 : ∀ (n : Nat) (v1_7 : Int32) (g5 : gh) (H : Heap) (locs : List Loc) (ls : Array Slot), (g5 104 0 - v1_7.toInt : Int) < n → 0 ≤ v1_7.toInt ∧ v1_7.toInt ≤ g5 104 0 → (∀ c j : Nat, c ≠ 144 → c ≠ 145 → g5 c j = (gs g 100 0 x1.toInt) c j) → (g5 144 = fz (g 144) 0 0 v1_7.toInt.toNat) → (g5 145 = lk_f (g 145) (g 107) v1_7.toInt.toNat) → ty_ok (dC, dI) vwCl Γ (TP dA Γ g5) sz X H → va_S (ty_A sz) s.heap H locs → lv_has ls 5 [(1, .int v1_7), (0, .ref h0)] → W p l e (headSpec (.code yX9_rush cX9_rush 5 (Option.some Jvm.ClassFile.FieldType.int) :: AL) ({ frames := 2, cells := 0, slots := 0, locals := 45 })).room s m ([.ref h0] : List Value).toArray below meth c H locs 0 0 (MQ below (va_Qi (fun (r : Int32) (u : gh) => (∀ c j : Nat, c ≠ 100 → c ≠ 106 → c ≠ 107 → c ≠ 132 → c ≠ 134 → c ≠ 135 → c ≠ 144 → c ≠ 145 → u c j = g c j) ∧ (IJ u) ∧ ((u 106, u 107, u 144, u 135, u 132, u 134, r.toInt) = rm_f (g 131) (g 128) (g 129) (g 102) (g 103) (g 108) (lk_f (g 145) (g 107) (g 104 0).toNat) (g 126 0).toNat (g 104 0).toNat (g 104 0).toNat (g 106, g 107, fz (g 144) 0 0 (g 104 0).toNat, g 135, g 132, g 134, 0))) (okb dC dI dA sz X Γ) (ty_A sz)) ([.ref h0] : List Value).toArray s 0 0 (ty_A sz)) (F0 m 7 ls []) := by
    intro n
    induction n with
    | zero => intro v1_7 g5 H locs ls hm hi0 hf7 ha0 ha1 hG hS hl; exfalso; omega
    | succ n ih_7 =>
      intro v1_7 g5 H locs ls hm hi0 hf7 ha0 ha1 hG hS hl
      have hj8 : IJ g5 := IJ_cg (hf7 126 0 (by decide) (by decide)) (fun j => hf7 132 j (by decide) (by decide)) (fun j => hf7 134 j (by decide) (by decide)) (by (repeat (first | with_reducible assumption | (refine IJ_c (by decide) (by decide) (by decide) ?_) | (refine IJ_take (by omega) (by omega) ?_) | (refine IJ_how (by omega) ?_) | (refine IJ_by (by omega) ?_))))
      have hk9 : g5 104 0 = (gs g 100 0 x1.toInt) 104 0 := hf7 104 0 (by decide) (by decide)
      replace hk9 : g5 104 0 = g 104 0 := by rw [hk9, gs_c _ _ _ _ (by decide)]
      refine lv_iload_n hx hb dX9_rush_7 rfl (lv_at hl 0 rfl) ?_
      refine lv_aload_n hx hb dX9_rush_8 rfl (lv_at hl 1 rfl) ?_
      refine get_X9_4 hx hb hA hown hE hG t_h0 wd_4_134 dX9_rush_9 (fun x10 h11 => ?_)
      replace h11 : x10.toInt = g 104 0 := by rw [h11, hf7 104 0 (by decide) (by decide), gs_c _ _ _ _ (by decide)]
      refine ty_icmp_ge (tgt := 40) hx hb dX9_rush_12 (by decide) (fun c13 => ?_) (fun c13 => ?_)
      · skip
        refine ty_iconst hx hb (0) dX9_rush_40 (by decide) (fun x14 h15 => ?_)
        refine lv_istore_n (lv' := [(1, .int x14), (0, .ref h0)]) hx hb dX9_rush_41 rfl hl (by decide) rfl (fun ls hl => ?_)
        refine lv_aload_n hx hb dX9_rush_42 rfl (lv_at hl 1 rfl) ?_
        refine cI (va_runV (C := RX9) (As := []) (rest := []) ⟨hx, hb, hml, hown, hA⟩ (k_X9_nextInRush l dC dI dA sz X Γ hU g5 h0 t_h0   (by omega)) ⟨callB_of 0 hA (al_A wd_5_184) rfl rfl rfl (hA _ wd_1_7) (hA _ wd_5_181) (by decide +kernel) ⟨Nat.le_of_ble_eq_true rfl, Nat.le_of_ble_eq_true rfl⟩, hA _ wd_5_183, hA _ ws_54⟩ ⟨bl, recv_X9 hE hG t_h0, fun U hU9 hW9 => ⟨rfl, by rw [hU9]; exact hG, hE.go hS hU9 hW9⟩⟩ rfl rfl hl.1 rfl (lv_room (Nat.le_of_ble_eq_true rfl)) dX9_rush_43 ⟨Nat.zero_le _, Nat.zero_le _⟩) hS (fun x18 u16 H locs w17 hG hS => ?_)
        obtain ⟨eu19, w17⟩ := w17
        rw [eu19] at hG
        rw [show g5 108 = (g 108) by rw [(show g5 108 = (gs g 100 0 x1.toInt) 108 from funext fun j => hf7 108 j (by decide) (by decide)), gs_r _ _ _ (by decide)]] at w17
        rw [show g5 135 = (g 135) by rw [(show g5 135 = (gs g 100 0 x1.toInt) 135 from funext fun j => hf7 135 j (by decide) (by decide)), gs_r _ _ _ (by decide)]] at w17
        rw [show g5 144 = (fz (g 144) 0 0 v1_7.toInt.toNat) by rw [ha0]] at w17
        rw [show g5 145 = (lk_f (g 145) (g 107) v1_7.toInt.toNat) by rw [ha1]] at w17
        rw [show g5 104 = (g 104) by rw [(show g5 104 = (gs g 100 0 x1.toInt) 104 from funext fun j => hf7 104 j (by decide) (by decide)), gs_r _ _ _ (by decide)]] at w17
        have hct9 : cnt (g 104 0).toNat (g5 144) 0 = (g 104 0).toNat := by rw [ha0, show v1_7.toInt.toNat = (g 104 0).toNat by omega]; exact cnt_fz0
        refine lv_istore_n (lv' := [(2, .int x18), (1, .int x14), (0, .ref h0)]) hx hb dX9_rush_46 rfl hl (by decide) rfl (fun ls hl => ?_)
        have L_47 : ∀ (n : Nat) (v2_47 : Int32) (v1_47 : Int32) (g20 : gh) (H : Heap) (locs : List Loc) (ls : Array Slot), ((cnt (g 104 0).toNat (g20 144) 0 : Int) : Int) < n → v2_47.toInt = -1 ∨ (0 ≤ v2_47.toInt ∧ v2_47.toInt < g 104 0) → 0 ≤ v1_47.toInt ∧ v1_47.toInt + (cnt (g 104 0).toNat (g20 144) 0 : Int) ≤ g 104 0 → (∀ c j : Nat, c ≠ 106 → c ≠ 107 → c ≠ 132 → c ≠ 134 → c ≠ 135 → c ≠ 144 → g20 c j = g5 c j) → (IJ g20) → (rm_f (g 131) (g 128) (g 129) (g 102) (g 103) (g 108) (lk_f (g 145) (g 107) (g 104 0).toNat) (g 126 0).toNat (g 104 0).toNat (cnt (g 104 0).toNat (g20 144) 0) (g20 106, g20 107, g20 144, g20 135, g20 132, g20 134, v1_47.toInt) = rm_f (g 131) (g 128) (g 129) (g 102) (g 103) (g 108) (lk_f (g 145) (g 107) (g 104 0).toNat) (g 126 0).toNat (g 104 0).toNat (g 104 0).toNat (g 106, g 107, fz (g 144) 0 0 (g 104 0).toNat, g 135, g 132, g 134, 0)) → (v2_47.toInt = fi_f (rl_f (g 108) (g20 135) (g20 144)) (lk_f (g 145) (g 107) (g 104 0).toNat) (g 104 0).toNat) → ty_ok (dC, dI) vwCl Γ (TP dA Γ g20) sz X H → va_S (ty_A sz) s.heap H locs → lv_has ls 5 [(2, .int v2_47), (1, .int v1_47), (0, .ref h0)] → W p l e (headSpec (.code yX9_rush cX9_rush 5 (Option.some Jvm.ClassFile.FieldType.int) :: AL) ({ frames := 2, cells := 0, slots := 0, locals := 45 })).room s m ([.ref h0] : List Value).toArray below meth c H locs 0 0 (MQ below (va_Qi (fun (r : Int32) (u : gh) => (∀ c j : Nat, c ≠ 100 → c ≠ 106 → c ≠ 107 → c ≠ 132 → c ≠ 134 → c ≠ 135 → c ≠ 144 → c ≠ 145 → u c j = g c j) ∧ (IJ u) ∧ ((u 106, u 107, u 144, u 135, u 132, u 134, r.toInt) = rm_f (g 131) (g 128) (g 129) (g 102) (g 103) (g 108) (lk_f (g 145) (g 107) (g 104 0).toNat) (g 126 0).toNat (g 104 0).toNat (g 104 0).toNat (g 106, g 107, fz (g 144) 0 0 (g 104 0).toNat, g 135, g 132, g 134, 0))) (okb dC dI dA sz X Γ) (ty_A sz)) ([.ref h0] : List Value).toArray s 0 0 (ty_A sz)) (F0 m 47 ls []) := by
          intro n
          induction n with
          | zero => intro v2_47 v1_47 g20 H locs ls hm hi0 hi1 hf21 hq0 hq1 hq2 hG hS hl; exfalso; omega
          | succ n ih_47 =>
            intro v2_47 v1_47 g20 H locs ls hm hi0 hi1 hf21 hq0 hq1 hq2 hG hS hl
            have has9 := rl_in hq2
            refine lv_iload_n hx hb dX9_rush_47 rfl (lv_at hl 0 rfl) ?_
            refine ty_iconst hx hb (-1) dX9_rush_48 (by decide) (fun x22 h23 => ?_)
            refine ty_icmp_eq (tgt := 199) hx hb dX9_rush_49 (by decide) (fun c24 => ?_) (fun c24 => ?_)
            · skip
              refine lv_iload_n hx hb dX9_rush_199 rfl (lv_at hl 1 rfl) ?_
              exact W.iret (v := v1_47) hx hb hr (fun t ht hW => ⟨⟨v1_47, g20, rfl, ⟨(fun c j h100 h106 h107 h132 h134 h135 h144 h145 => by rw [hf21 c j h106 h107 h132 h134 h135 h144, hf7 c j h144 h145, gs_c _ _ _ _ h100]), (by (repeat (first | with_reducible assumption | (refine IJ_c (by decide) (by decide) (by decide) ?_) | (refine IJ_take (by omega) (by omega) ?_) | (refine IJ_how (by omega) ?_) | (refine IJ_by (by omega) ?_)))), (by rw [← hq1]; exact (rm_no (by rw [← hq2]; omega)).symm)⟩, ok1 ht hG⟩, hS.F ht⟩) hS.2.2 dX9_rush_200
            · skip
              refine lv_aload_n hx hb dX9_rush_52 rfl (lv_at hl 2 rfl) ?_
              refine get_X9_44 hx hb hA hown hE hG t_h0 wd_4_174 dX9_rush_53 (fun b25 (t_b25 : ty Γ b25 144) => ?_)
              refine lv_iload_n hx hb dX9_rush_56 rfl (lv_at hl 0 rfl) ?_
              refine ty_iconst hx hb (1) dX9_rush_57 (by decide) (fun x26 h27 => ?_)
              refine ast_mZ hx hb hE hG hS hU 44 rfl (n := 10) rfl (lo := 0) (hi := 1) rfl rfl rfl t_b25 (by omega) (by omega) (by omega) dX9_rush_58 (fun H locs hG hS => ?_)
              refine ty_iconst hx hb (-1) dX9_rush_59 (by decide) (fun x28 h29 => ?_)
              refine lv_istore_n (lv' := [(3, .int x28), (2, .int v2_47), (1, .int v1_47), (0, .ref h0)]) hx hb dX9_rush_60 rfl hl (by decide) rfl (fun ls hl => ?_)
              refine ty_iconst hx hb (0) dX9_rush_61 (by decide) (fun x30 h31 => ?_)
              refine lv_istore (lv' := [(4, .int x30), (3, .int x28), (2, .int v2_47), (1, .int v1_47), (0, .ref h0)]) hx hb dX9_rush_62 hl (by decide) rfl (fun ls hl => ?_)
              have hk32 : g20 126 0 = g5 126 0 := hf21 126 0 (by decide) (by decide) (by decide) (by decide) (by decide) (by decide)
              have hk33 : g5 126 0 = (gs g 100 0 x1.toInt) 126 0 := hf7 126 0 (by decide) (by decide)
              replace hk33 : g5 126 0 = g 126 0 := by rw [hk33, gs_c _ _ _ _ (by decide)]
              have e34 : (gs g20 144 v2_47.toInt.toNat x26.toInt) 126 0 = g20 126 0 := by rw [gs_c _ _ _ _ (by decide)]
              have L_64 : ∀ (n : Nat) (v4_64 : Int32) (v3_64 : Int32) (H : Heap) (locs : List Loc) (ls : Array Slot), ((gs g20 144 v2_47.toInt.toNat x26.toInt) 126 0 - v4_64.toInt : Int) < n → 0 ≤ v4_64.toInt ∧ v4_64.toInt ≤ (gs g20 144 v2_47.toInt.toNat x26.toInt) 126 0 → -1 ≤ v3_64.toInt ∧ v3_64.toInt < v4_64.toInt → (v3_64.toInt = rb_f (g20 132) (g 131) (g 128) (g 129) (g 102) (g 103) (g20 135) ((g20 106) v2_47.toInt.toNat) (200 + v2_47.toInt.toNat) v4_64.toInt.toNat) → ty_ok (dC, dI) vwCl Γ (TP dA Γ (gs g20 144 v2_47.toInt.toNat x26.toInt)) sz X H → va_S (ty_A sz) s.heap H locs → lv_has ls 5 [(4, .int v4_64), (3, .int v3_64), (2, .int v2_47), (1, .int v1_47), (0, .ref h0)] → W p l e (headSpec (.code yX9_rush cX9_rush 5 (Option.some Jvm.ClassFile.FieldType.int) :: AL) ({ frames := 2, cells := 0, slots := 0, locals := 45 })).room s m ([.ref h0] : List Value).toArray below meth c H locs 0 0 (MQ below (va_Qi (fun (r : Int32) (u : gh) => (∀ c j : Nat, c ≠ 100 → c ≠ 106 → c ≠ 107 → c ≠ 132 → c ≠ 134 → c ≠ 135 → c ≠ 144 → c ≠ 145 → u c j = g c j) ∧ (IJ u) ∧ ((u 106, u 107, u 144, u 135, u 132, u 134, r.toInt) = rm_f (g 131) (g 128) (g 129) (g 102) (g 103) (g 108) (lk_f (g 145) (g 107) (g 104 0).toNat) (g 126 0).toNat (g 104 0).toNat (g 104 0).toNat (g 106, g 107, fz (g 144) 0 0 (g 104 0).toNat, g 135, g 132, g 134, 0))) (okb dC dI dA sz X Γ) (ty_A sz)) ([.ref h0] : List Value).toArray s 0 0 (ty_A sz)) (F0 m 64 ls []) := by
                intro n
                induction n with
                | zero => intro v4_64 v3_64 H locs ls hm hi0 hi1 hb0 hG hS hl; exfalso; omega
                | succ n ih_64 =>
                  intro v4_64 v3_64 H locs ls hm hi0 hi1 hb0 hG hS hl
                  refine lv_iload hx hb dX9_rush_64 (lv_at hl 0 rfl) ?_
                  refine lv_aload_n hx hb dX9_rush_66 rfl (lv_at hl 4 rfl) ?_
                  refine get_X9_26 hx hb hA hown hE hG t_h0 wd_4_156 dX9_rush_67 (fun x36 h37 => ?_)
                  replace h37 : x36.toInt = g 126 0 := by rw [h37, gs_c _ _ _ _ (by decide), hf21 126 0 (by decide) (by decide) (by decide) (by decide) (by decide) (by decide), hf7 126 0 (by decide) (by decide), gs_c _ _ _ _ (by decide)]
                  refine ty_icmp_ge (tgt := 147) hx hb dX9_rush_70 (by decide) (fun c39 => ?_) (fun c39 => ?_)
                  · skip
                    have hbb9 : v3_64.toInt = rb_f (g20 132) (g 131) (g 128) (g 129) (g 102) (g 103) (g20 135) ((g20 106) v2_47.toInt.toNat) (200 + v2_47.toInt.toNat) (g 126 0).toNat := by rw [hb0, show v4_64.toInt.toNat = (g 126 0).toNat by omega]
                    refine lv_iload_n hx hb dX9_rush_147 rfl (lv_at hl 1 rfl) ?_
                    refine ty_iconst hx hb (-1) dX9_rush_148 (by decide) (fun x40 h41 => ?_)
                    refine ty_icmp_eq (tgt := 191) hx hb dX9_rush_149 (by decide) (fun c42 => ?_) (fun c42 => ?_)
                    · skip
                      refine lv_aload_n hx hb dX9_rush_191 rfl (lv_at hl 4 rfl) ?_
                      have hk43 : g20 104 0 = g5 104 0 := hf21 104 0 (by decide) (by decide) (by decide) (by decide) (by decide) (by decide)
                      have e44 : (gs g20 144 v2_47.toInt.toNat x26.toInt) 104 0 = g20 104 0 := by rw [gs_c _ _ _ _ (by decide)]
                      have e45 : (gs g20 144 v2_47.toInt.toNat x26.toInt) 104 0 = g20 104 0 := by rw [gs_c _ _ _ _ (by decide)]
                      refine cI (va_runV (C := RX9) (As := []) (rest := []) ⟨hx, hb, hml, hown, hA⟩ (k_X9_nextInRush l dC dI dA sz X Γ hU (gs g20 144 v2_47.toInt.toNat x26.toInt) h0 t_h0   (by omega)) ⟨callB_of 0 hA (al_A wd_5_184) rfl rfl rfl (hA _ wd_1_7) (hA _ wd_5_181) (by decide +kernel) ⟨Nat.le_of_ble_eq_true rfl, Nat.le_of_ble_eq_true rfl⟩, hA _ wd_5_183, hA _ ws_54⟩ ⟨bl, recv_X9 hE hG t_h0, fun U hU9 hW9 => ⟨rfl, by rw [hU9]; exact hG, hE.go hS hU9 hW9⟩⟩ rfl rfl hl.1 rfl (lv_room (Nat.le_of_ble_eq_true rfl)) dX9_rush_192 ⟨Nat.zero_le _, Nat.zero_le _⟩) hS (fun x48 u46 H locs w47 hG hS => ?_)
                      obtain ⟨eu49, w47⟩ := w47
                      rw [eu49] at hG
                      rw [show (gs g20 144 v2_47.toInt.toNat x26.toInt) 108 = (g 108) by rw [gs_r _ _ _ (by decide), (show g20 108 = g5 108 from funext fun j => hf21 108 j (by decide) (by decide) (by decide) (by decide) (by decide) (by decide)), (show g5 108 = (gs g 100 0 x1.toInt) 108 from funext fun j => hf7 108 j (by decide) (by decide)), gs_r _ _ _ (by decide)]] at w47
                      rw [show (gs g20 144 v2_47.toInt.toNat x26.toInt) 135 = (g20 135) by rw [gs_r _ _ _ (by decide)]] at w47
                      rw [show (gs g20 144 v2_47.toInt.toNat x26.toInt) 144 = (pz_up (g20 144) v2_47.toInt.toNat x26.toInt) by rw [pz_gs]] at w47
                      rw [show (gs g20 144 v2_47.toInt.toNat x26.toInt) 145 = (lk_f (g 145) (g 107) v1_7.toInt.toNat) by rw [gs_r _ _ _ (by decide), (show g20 145 = g5 145 from funext fun j => hf21 145 j (by decide) (by decide) (by decide) (by decide) (by decide) (by decide)), ha1]] at w47
                      rw [show (gs g20 144 v2_47.toInt.toNat x26.toInt) 104 = (g 104) by rw [gs_r _ _ _ (by decide), (show g20 104 = g5 104 from funext fun j => hf21 104 j (by decide) (by decide) (by decide) (by decide) (by decide) (by decide)), (show g5 104 = (gs g 100 0 x1.toInt) 104 from funext fun j => hf7 104 j (by decide) (by decide)), gs_r _ _ _ (by decide)]] at w47
                      refine lv_istore_n (lv' := [(2, .int x48), (4, .int v4_64), (3, .int v3_64), (1, .int v1_47), (0, .ref h0)]) hx hb dX9_rush_195 rfl hl (by decide) rfl (fun ls hl => ?_)
                      have hct8 : (cnt (g 104 0).toNat ((gs g20 144 v2_47.toInt.toNat x26.toInt) 144) 0 : Int) = cnt (g 104 0).toNat (g20 144) 0 - 1 := by rw [pz_gs, cnt_up (by omega), if_pos (by omega), if_neg (by omega)]; omega
                      have hlt9 : v1_7.toInt.toNat = (g 104 0).toNat := by omega
                      refine lv_goto (tgt := 47) hx hb dX9_rush_196 (by decide) ?_
                      exact ih_47 x48 v1_47 (gs g20 144 v2_47.toInt.toNat x26.toInt) _ _ ls (by omega) (by omega) (by omega) (fun c j h106 h107 h132 h134 h135 h144 => by rw [gs_c _ _ _ _ h144, hf21 c j h106 h107 h132 h134 h135 h144]) (by (repeat (first | with_reducible assumption | (refine IJ_c (by decide) (by decide) (by decide) ?_) | (refine IJ_take (by omega) (by omega) ?_) | (refine IJ_how (by omega) ?_) | (refine IJ_by (by omega) ?_)))) (Eq.trans (rm_1 (t := cnt (g 104 0).toNat ((gs g20 144 v2_47.toInt.toNat x26.toInt) 144) 0) (t' := cnt (g 104 0).toNat (g20 144) 0) (o := v2_47.toInt) (by omega) hq2 (by omega) (by rw [← hbb9]; omega) (by rw [gs_r _ _ _ (by decide)] <;> exact pz_upc (by omega) (by omega)) (by rw [gs_r _ _ _ (by decide)] <;> exact pz_upc (by omega) (by omega)) (by rw [pz_gs] <;> exact pz_upc (by omega) (by omega)) (by rw [gs_r _ _ _ (by decide)] <;> exact pz_upc (by omega) (by omega)) (by rw [gs_r _ _ _ (by decide)] <;> exact pz_upc (by omega) (by omega)) (by rw [gs_r _ _ _ (by decide)] <;> exact pz_upc (by omega) (by omega)) (by omega)) hq1) (by have h9 := w47.2; rw [hlt9] at h9; rw [show (gs g20 144 v2_47.toInt.toNat x26.toInt) 135 = (g20 135) by rw [gs_r _ _ _ (by decide)], show (gs g20 144 v2_47.toInt.toNat x26.toInt) 144 = (pz_up (g20 144) v2_47.toInt.toNat x26.toInt) by rw [pz_gs]]; exact h9) hG hS (lv_sub hl [0, 3, 4] rfl)
                    · skip
                      refine lv_aload_n hx hb dX9_rush_152 rfl (lv_at hl 4 rfl) ?_
                      refine lv_iload_n hx hb dX9_rush_153 rfl (lv_at hl 1 rfl) ?_
                      refine lv_iload_n hx hb dX9_rush_154 rfl (lv_at hl 2 rfl) ?_
                      refine cV (va_runV (C := RX9) (As := [.int v3_64, .int v2_47]) (rest := []) ⟨hx, hb, hml, hown, hA⟩ (k_X9_goesTo l dC dI dA sz X Γ hU (gs g20 144 v2_47.toInt.toNat x26.toInt) h0 t_h0 v3_64 v2_47   (by omega) (by (repeat (first | with_reducible assumption | (refine IJ_c (by decide) (by decide) (by decide) ?_) | (refine IJ_take (by omega) (by omega) ?_) | (refine IJ_how (by omega) ?_) | (refine IJ_by (by omega) ?_))))) ⟨callB_of 2 hA (al_A wd_5_176) rfl rfl rfl (hA _ wd_1_7) (hA _ wd_5_173) (by decide +kernel) ⟨Nat.le_of_ble_eq_true rfl, Nat.le_of_ble_eq_true rfl⟩, hA _ wd_5_175, hA _ ws_53⟩ ⟨bl, recv_X9 hE hG t_h0, fun U hU9 hW9 => ⟨rfl, by rw [hU9]; exact hG, hE.go hS hU9 hW9⟩⟩ rfl rfl hl.1 rfl (lv_room (Nat.le_of_ble_eq_true rfl)) dX9_rush_155 ⟨Nat.zero_le _, Nat.zero_le _⟩) hS (fun u50 H locs w51 hG hS => ?_)
                      obtain ⟨hf56, hq52, hq53, hq54, hq55⟩ := w51
                      have hn57 : (gs g20 144 v2_47.toInt.toNat x26.toInt) 132 = (g20 132) := by rw [gs_r _ _ _ (by decide)]
                      rw [hn57] at hq53
                      have hn58 : (gs g20 144 v2_47.toInt.toNat x26.toInt) 134 = (g20 134) := by rw [gs_r _ _ _ (by decide)]
                      rw [hn58] at hq54
                      have hn59 : (gs g20 144 v2_47.toInt.toNat x26.toInt) 106 = (g20 106) := by rw [gs_r _ _ _ (by decide)]
                      rw [hn59] at hq55
                      have hn60 : (gs g20 144 v2_47.toInt.toNat x26.toInt) 106 v2_47.toInt.toNat = g20 106 v2_47.toInt.toNat := by rw [gs_c _ _ _ _ (by decide)]
                      try rw [hn60] at hq55
                      have hn61 : (gs g20 144 v2_47.toInt.toNat x26.toInt) 131 v3_64.toInt.toNat = g 131 v3_64.toInt.toNat := by rw [gs_c _ _ _ _ (by decide), hf21 131 v3_64.toInt.toNat (by decide) (by decide) (by decide) (by decide) (by decide) (by decide), hf7 131 v3_64.toInt.toNat (by decide) (by decide), gs_c _ _ _ _ (by decide)]
                      try rw [hn61] at hq55
                      refine lv_aload_n hx hb dX9_rush_158 rfl (lv_at hl 4 rfl) ?_
                      refine get_X9_7 hx hb hA hown hE hG t_h0 wd_4_137 dX9_rush_159 (fun b62 (t_b62 : ty Γ b62 107) => ?_)
                      refine lv_iload_n hx hb dX9_rush_162 rfl (lv_at hl 2 rfl) ?_
                      refine lv_dup2_11 hx hb dX9_rush_163 rfl rfl ?_
                      refine ald_mI hx hb hE hG 7 rfl (n := 10) rfl (lo := -2147483648) (hi := 2147483647) rfl rfl t_b62 (by omega) dX9_rush_164 (fun j64 x63 h65 h66 h67 => ?_)
                      clear h67
                      obtain rfl : j64 = v2_47.toInt.toNat := by omega
                      replace h66 : x63.toInt = u50 107 v2_47.toInt.toNat := h66
                      have hk68 : u50 107 v2_47.toInt.toNat = (gs g20 144 v2_47.toInt.toNat x26.toInt) 107 v2_47.toInt.toNat := hf56 107 v2_47.toInt.toNat (by decide) (by decide) (by decide)
                      replace hk68 : u50 107 v2_47.toInt.toNat = g20 107 v2_47.toInt.toNat := by rw [hk68, gs_c _ _ _ _ (by decide)]
                      replace h66 : x63.toInt = g20 107 v2_47.toInt.toNat := by rw [h66, hf56 107 v2_47.toInt.toNat (by decide) (by decide) (by decide), gs_c _ _ _ _ (by decide)]
                      refine lv_aload_n hx hb dX9_rush_165 rfl (lv_at hl 4 rfl) ?_
                      refine get_X9_31 hx hb hA hown hE hG t_h0 wd_4_161 dX9_rush_166 (fun b69 (t_b69 : ty Γ b69 131) => ?_)
                      refine lv_iload_n hx hb dX9_rush_169 rfl (lv_at hl 1 rfl) ?_
                      refine ald_mI hx hb hE hG 31 rfl (n := 200) rfl (lo := -2147483648) (hi := 2147483647) rfl rfl t_b69 (by omega) dX9_rush_170 (fun j71 x70 h72 h73 h74 => ?_)
                      clear h74
                      obtain rfl : j71 = v3_64.toInt.toNat := by omega
                      replace h73 : x70.toInt = u50 131 v3_64.toInt.toNat := h73
                      have hk75 : u50 131 v3_64.toInt.toNat = (gs g20 144 v2_47.toInt.toNat x26.toInt) 131 v3_64.toInt.toNat := hf56 131 v3_64.toInt.toNat (by decide) (by decide) (by decide)
                      replace hk75 : u50 131 v3_64.toInt.toNat = g20 131 v3_64.toInt.toNat := by rw [hk75, gs_c _ _ _ _ (by decide)]
                      have hk76 : g20 131 v3_64.toInt.toNat = g5 131 v3_64.toInt.toNat := hf21 131 v3_64.toInt.toNat (by decide) (by decide) (by decide) (by decide) (by decide) (by decide)
                      have hk77 : g5 131 v3_64.toInt.toNat = (gs g 100 0 x1.toInt) 131 v3_64.toInt.toNat := hf7 131 v3_64.toInt.toNat (by decide) (by decide)
                      replace hk77 : g5 131 v3_64.toInt.toNat = g 131 v3_64.toInt.toNat := by rw [hk77, gs_c _ _ _ _ (by decide)]
                      replace h73 : x70.toInt = g 131 v3_64.toInt.toNat := by rw [h73, hf56 131 v3_64.toInt.toNat (by decide) (by decide) (by decide), gs_c _ _ _ _ (by decide), hf21 131 v3_64.toInt.toNat (by decide) (by decide) (by decide) (by decide) (by decide) (by decide), hf7 131 v3_64.toInt.toNat (by decide) (by decide), gs_c _ _ _ _ (by decide)]
                      refine ty_iadd hx hb dX9_rush_171 (fun x78 h79 => ?_)
                      have h80 : x78.toInt = wa (g20 107 v2_47.toInt.toNat) (g 131 v3_64.toInt.toNat) := by rw [ty_wa h79, h66, h73]
                      refine ast_mI hx hb hE hG hS hU 7 rfl (n := 10) rfl (lo := -2147483648) (hi := 2147483647) rfl rfl rfl t_b62 (rgD _) (by omega) dX9_rush_172 (fun H locs hG hS => ?_)
                      refine lv_aload_n hx hb dX9_rush_173 rfl (lv_at hl 4 rfl) ?_
                      refine get_X9_35 hx hb hA hown hE hG t_h0 wd_4_165 dX9_rush_174 (fun b81 (t_b81 : ty Γ b81 135) => ?_)
                      refine ty_iconst hx hb (4) dX9_rush_177 (by decide) (fun x82 h83 => ?_)
                      refine ty_sipush hx hb (200) dX9_rush_178 (by decide) (fun x84 h85 => ?_)
                      refine lv_iload_n hx hb dX9_rush_181 rfl (lv_at hl 2 rfl) ?_
                      refine ty_iadd hx hb dX9_rush_182 (fun x86 h87 => ?_)
                      try have h88 : x86.toInt = x84.toInt + v2_47.toInt := ty_add h87 (by omega) (by omega)
                      refine ty_imul hx hb dX9_rush_183 (fun x89 h90 => ?_)
                      try have h91 : x89.toInt = 4 * x86.toInt := ty_mull h90 (by omega) (by omega) (by omega)
                      refine ty_iconst hx hb (3) dX9_rush_184 (by decide) (fun x92 h93 => ?_)
                      refine ty_iadd hx hb dX9_rush_185 (fun x94 h95 => ?_)
                      try have h96 : x94.toInt = x89.toInt + x92.toInt := ty_add h95 (by omega) (by omega)
                      refine ty_iconst hx hb (0) dX9_rush_186 (by decide) (fun x97 h98 => ?_)
                      refine ast_mI hx hb hE hG hS hU 35 rfl (n := 840) rfl (lo := -2147483648) (hi := 2147483647) rfl rfl rfl t_b81 (rgD _) (by omega) dX9_rush_187 (fun H locs hG hS => ?_)
                      rw [show x94.toInt.toNat = (4 * (200 + v2_47.toInt.toNat) + 3) by omega] at hG
                      obtain ⟨x99, h100⟩ : ∃ y : Int32, y = v1_47 + Int32.ofInt (1) := ⟨_, rfl⟩
                      try have h101 : x99.toInt = v1_47.toInt + (1) := ty_inc h100 (by decide) (by omega) (by omega)
                      refine lv_iinc (v := x99) (lv' := [(1, .int x99), (4, .int v4_64), (3, .int v3_64), (2, .int v2_47), (0, .ref h0)]) hx hb dX9_rush_188 hl (k := 3) rfl h100.symm (by decide) rfl (fun ls hl => ?_)
                      refine lv_aload_n hx hb dX9_rush_191 rfl (lv_at hl 4 rfl) ?_
                      have hk102 : u50 104 0 = (gs g20 144 v2_47.toInt.toNat x26.toInt) 104 0 := hf56 104 0 (by decide) (by decide) (by decide)
                      replace hk102 : u50 104 0 = g20 104 0 := by rw [hk102, gs_c _ _ _ _ (by decide)]
                      have hk103 : g20 104 0 = g5 104 0 := hf21 104 0 (by decide) (by decide) (by decide) (by decide) (by decide) (by decide)
                      have e104 : (gs (gs u50 107 v2_47.toInt.toNat x78.toInt) 135 (4 * (200 + v2_47.toInt.toNat) + 3) x97.toInt) 104 0 = u50 104 0 := by rw [gs_c _ _ _ _ (by decide), gs_c _ _ _ _ (by decide)]
                      have e105 : (gs (gs u50 107 v2_47.toInt.toNat x78.toInt) 135 (4 * (200 + v2_47.toInt.toNat) + 3) x97.toInt) 104 0 = u50 104 0 := by rw [gs_c _ _ _ _ (by decide), gs_c _ _ _ _ (by decide)]
                      refine cI (va_runV (C := RX9) (As := []) (rest := []) ⟨hx, hb, hml, hown, hA⟩ (k_X9_nextInRush l dC dI dA sz X Γ hU (gs (gs u50 107 v2_47.toInt.toNat x78.toInt) 135 (4 * (200 + v2_47.toInt.toNat) + 3) x97.toInt) h0 t_h0   (by omega)) ⟨callB_of 0 hA (al_A wd_5_184) rfl rfl rfl (hA _ wd_1_7) (hA _ wd_5_181) (by decide +kernel) ⟨Nat.le_of_ble_eq_true rfl, Nat.le_of_ble_eq_true rfl⟩, hA _ wd_5_183, hA _ ws_54⟩ ⟨bl, recv_X9 hE hG t_h0, fun U hU9 hW9 => ⟨rfl, by rw [hU9]; exact hG, hE.go hS hU9 hW9⟩⟩ rfl rfl hl.1 rfl (lv_room (Nat.le_of_ble_eq_true rfl)) dX9_rush_192 ⟨Nat.zero_le _, Nat.zero_le _⟩) hS (fun x108 u106 H locs w107 hG hS => ?_)
                      obtain ⟨eu109, w107⟩ := w107
                      rw [eu109] at hG
                      rw [show (gs (gs u50 107 v2_47.toInt.toNat x78.toInt) 135 (4 * (200 + v2_47.toInt.toNat) + 3) x97.toInt) 108 = (g 108) by rw [gs_r _ _ _ (by decide), gs_r _ _ _ (by decide), (show u50 108 = (gs g20 144 v2_47.toInt.toNat x26.toInt) 108 from funext fun j => hf56 108 j (by decide) (by decide) (by decide)), gs_r _ _ _ (by decide), (show g20 108 = g5 108 from funext fun j => hf21 108 j (by decide) (by decide) (by decide) (by decide) (by decide) (by decide)), (show g5 108 = (gs g 100 0 x1.toInt) 108 from funext fun j => hf7 108 j (by decide) (by decide)), gs_r _ _ _ (by decide)]] at w107
                      rw [show (gs (gs u50 107 v2_47.toInt.toNat x78.toInt) 135 (4 * (200 + v2_47.toInt.toNat) + 3) x97.toInt) 135 = (pz_up (g20 135) (4 * (200 + v2_47.toInt.toNat) + 3) x97.toInt) by rw [pz_gs, gs_r _ _ _ (by decide), (show u50 135 = (gs g20 144 v2_47.toInt.toNat x26.toInt) 135 from funext fun j => hf56 135 j (by decide) (by decide) (by decide)), gs_r _ _ _ (by decide)]] at w107
                      rw [show (gs (gs u50 107 v2_47.toInt.toNat x78.toInt) 135 (4 * (200 + v2_47.toInt.toNat) + 3) x97.toInt) 144 = (pz_up (g20 144) v2_47.toInt.toNat x26.toInt) by rw [gs_r _ _ _ (by decide), gs_r _ _ _ (by decide), (show u50 144 = (gs g20 144 v2_47.toInt.toNat x26.toInt) 144 from funext fun j => hf56 144 j (by decide) (by decide) (by decide)), pz_gs]] at w107
                      rw [show (gs (gs u50 107 v2_47.toInt.toNat x78.toInt) 135 (4 * (200 + v2_47.toInt.toNat) + 3) x97.toInt) 145 = (lk_f (g 145) (g 107) v1_7.toInt.toNat) by rw [gs_r _ _ _ (by decide), gs_r _ _ _ (by decide), (show u50 145 = (gs g20 144 v2_47.toInt.toNat x26.toInt) 145 from funext fun j => hf56 145 j (by decide) (by decide) (by decide)), gs_r _ _ _ (by decide), (show g20 145 = g5 145 from funext fun j => hf21 145 j (by decide) (by decide) (by decide) (by decide) (by decide) (by decide)), ha1]] at w107
                      rw [show (gs (gs u50 107 v2_47.toInt.toNat x78.toInt) 135 (4 * (200 + v2_47.toInt.toNat) + 3) x97.toInt) 104 = (g 104) by rw [gs_r _ _ _ (by decide), gs_r _ _ _ (by decide), (show u50 104 = (gs g20 144 v2_47.toInt.toNat x26.toInt) 104 from funext fun j => hf56 104 j (by decide) (by decide) (by decide)), gs_r _ _ _ (by decide), (show g20 104 = g5 104 from funext fun j => hf21 104 j (by decide) (by decide) (by decide) (by decide) (by decide) (by decide)), (show g5 104 = (gs g 100 0 x1.toInt) 104 from funext fun j => hf7 104 j (by decide) (by decide)), gs_r _ _ _ (by decide)]] at w107
                      refine lv_istore_n (lv' := [(2, .int x108), (1, .int x99), (4, .int v4_64), (3, .int v3_64), (0, .ref h0)]) hx hb dX9_rush_195 rfl hl (by decide) rfl (fun ls hl => ?_)
                      have hct8 : (cnt (g 104 0).toNat ((gs (gs u50 107 v2_47.toInt.toNat x78.toInt) 135 (4 * (200 + v2_47.toInt.toNat) + 3) x97.toInt) 144) 0 : Int) = cnt (g 104 0).toNat (g20 144) 0 - 1 := by rw [gs_r _ _ _ (by decide), gs_r _ _ _ (by decide), (show u50 144 = (gs g20 144 v2_47.toInt.toNat x26.toInt) 144 from funext fun j => hf56 144 j (by decide) (by decide) (by decide)), pz_gs, cnt_up (by omega), if_pos (by omega), if_neg (by omega)]; omega
                      have hlt9 : v1_7.toInt.toNat = (g 104 0).toNat := by omega
                      refine lv_goto (tgt := 47) hx hb dX9_rush_196 (by decide) ?_
                      exact ih_47 x108 x99 (gs (gs u50 107 v2_47.toInt.toNat x78.toInt) 135 (4 * (200 + v2_47.toInt.toNat) + 3) x97.toInt) _ _ ls (by omega) (by omega) (by omega) (fun c j h106 h107 h132 h134 h135 h144 => by rw [gs_c _ _ _ _ h135, gs_c _ _ _ _ h107, hf56 c j h106 h132 h134, gs_c _ _ _ _ h144, hf21 c j h106 h107 h132 h134 h135 h144]) (by (repeat (first | with_reducible assumption | (refine IJ_c (by decide) (by decide) (by decide) ?_) | (refine IJ_take (by omega) (by omega) ?_) | (refine IJ_how (by omega) ?_) | (refine IJ_by (by omega) ?_)))) (Eq.trans (rm_2 (t := cnt (g 104 0).toNat ((gs (gs u50 107 v2_47.toInt.toNat x78.toInt) 135 (4 * (200 + v2_47.toInt.toNat) + 3) x97.toInt) 144) 0) (t' := cnt (g 104 0).toNat (g20 144) 0) (o := v2_47.toInt) (k := v3_64.toInt) (by omega) hq2 (by omega) hbb9 (by omega) (by rw [gs_r _ _ _ (by decide), gs_r _ _ _ (by decide), hq55] <;> exact pz_upc (by omega) (by omega)) (by rw [gs_r _ _ _ (by decide), pz_gs, (show u50 107 = (gs g20 144 v2_47.toInt.toNat x26.toInt) 107 from funext fun j => hf56 107 j (by decide) (by decide) (by decide)), gs_r _ _ _ (by decide)] <;> exact pz_upc (by omega) (by omega)) (by rw [gs_r _ _ _ (by decide), gs_r _ _ _ (by decide), (show u50 144 = (gs g20 144 v2_47.toInt.toNat x26.toInt) 144 from funext fun j => hf56 144 j (by decide) (by decide) (by decide)), pz_gs] <;> exact pz_upc (by omega) (by omega)) (by rw [pz_gs, gs_r _ _ _ (by decide), (show u50 135 = (gs g20 144 v2_47.toInt.toNat x26.toInt) 135 from funext fun j => hf56 135 j (by decide) (by decide) (by decide)), gs_r _ _ _ (by decide)] <;> exact pz_upc (by omega) (by omega)) (by rw [gs_r _ _ _ (by decide), gs_r _ _ _ (by decide), hq53] <;> exact pz_upc (by omega) (by omega)) (by rw [gs_r _ _ _ (by decide), gs_r _ _ _ (by decide), hq54] <;> exact pz_upc (by omega) (by omega)) (by omega)) hq1) (by have h9 := w107.2; rw [hlt9] at h9; rw [show (gs (gs u50 107 v2_47.toInt.toNat x78.toInt) 135 (4 * (200 + v2_47.toInt.toNat) + 3) x97.toInt) 135 = (pz_up (g20 135) (4 * (200 + v2_47.toInt.toNat) + 3) x97.toInt) by rw [pz_gs, gs_r _ _ _ (by decide), (show u50 135 = (gs g20 144 v2_47.toInt.toNat x26.toInt) 135 from funext fun j => hf56 135 j (by decide) (by decide) (by decide)), gs_r _ _ _ (by decide)], show (gs (gs u50 107 v2_47.toInt.toNat x78.toInt) 135 (4 * (200 + v2_47.toInt.toNat) + 3) x97.toInt) 144 = (pz_up (g20 144) v2_47.toInt.toNat x26.toInt) by rw [gs_r _ _ _ (by decide), gs_r _ _ _ (by decide), (show u50 144 = (gs g20 144 v2_47.toInt.toNat x26.toInt) 144 from funext fun j => hf56 144 j (by decide) (by decide) (by decide)), pz_gs]]; exact h9) hG hS (lv_sub hl [0, 1, 4] rfl)
                  · skip
                    refine lv_aload_n hx hb dX9_rush_73 rfl (lv_at hl 4 rfl) ?_
                    refine get_X9_32 hx hb hA hown hE hG t_h0 wd_4_162 dX9_rush_74 (fun b110 (t_b110 : ty Γ b110 132) => ?_)
                    refine lv_iload hx hb dX9_rush_77 (lv_at hl 0 rfl) ?_
                    refine ald_mI hx hb hE hG 32 rfl (n := 200) rfl (lo := 0) (hi := 5) rfl rfl t_b110 (by omega) dX9_rush_79 (fun j112 x111 h113 h114 h115 => ?_)
                    obtain rfl : j112 = v4_64.toInt.toNat := by omega
                    rw [gs_c _ _ _ _ (by decide)] at h114
                    replace h114 : x111.toInt = g20 132 v4_64.toInt.toNat := h114
                    refine ty_iconst hx hb (2) dX9_rush_80 (by decide) (fun x116 h117 => ?_)
                    refine ty_icmp_ne (tgt := 141) hx hb dX9_rush_81 (by decide) (fun c118 => ?_) (fun c118 => ?_)
                    · skip
                      obtain ⟨x119, h120⟩ : ∃ y : Int32, y = v4_64 + Int32.ofInt (1) := ⟨_, rfl⟩
                      try have h121 : x119.toInt = v4_64.toInt + (1) := ty_inc h120 (by decide) (by omega) (by omega)
                      refine lv_iinc (v := x119) (lv' := [(4, .int x119), (3, .int v3_64), (2, .int v2_47), (1, .int v1_47), (0, .ref h0)]) hx hb dX9_rush_141 hl (k := 0) rfl h120.symm (by decide) rfl (fun ls hl => ?_)
                      refine lv_goto (tgt := 64) hx hb dX9_rush_144 (by decide) ?_
                      have e122 : (gs g20 144 v2_47.toInt.toNat x26.toInt) 126 0 = g20 126 0 := by rw [gs_c _ _ _ _ (by decide)]
                      exact ih_64 x119 v3_64 _ _ ls (by omega) (by omega) (by omega) (rb_no hb0 (by omega) (by omega)) hG hS (lv_sub hl [0, 1, 2, 3, 4] rfl)
                    · skip
                      refine lv_aload_n hx hb dX9_rush_84 rfl (lv_at hl 4 rfl) ?_
                      refine lv_iload hx hb dX9_rush_85 (lv_at hl 0 rfl) ?_
                      refine ty_sipush hx hb (200) dX9_rush_87 (by decide) (fun x123 h124 => ?_)
                      refine lv_iload_n hx hb dX9_rush_90 rfl (lv_at hl 2 rfl) ?_
                      refine ty_iadd hx hb dX9_rush_91 (fun x125 h126 => ?_)
                      try have h127 : x125.toInt = x123.toInt + v2_47.toInt := ty_add h126 (by omega) (by omega)
                      refine cI (va_runV (C := RX9) (As := [.int v4_64, .int x125]) (rest := []) ⟨hx, hb, hml, hown, hA⟩ (k_X9_meets l dC dI dA sz X Γ hU (gs g20 144 v2_47.toInt.toNat x26.toInt) h0 t_h0 v4_64 x125   (by omega)) ⟨callB_of 2 hA (al_A wd_5_156) rfl rfl rfl (hA _ wd_1_7) (hA _ wd_5_153) (by decide +kernel) ⟨Nat.le_of_ble_eq_true rfl, Nat.le_of_ble_eq_true rfl⟩, hA _ wd_5_155, hA _ ws_50⟩ ⟨bl, recv_X9 hE hG t_h0, fun U hU9 hW9 => ⟨rfl, by rw [hU9]; exact hG, hE.go hS hU9 hW9⟩⟩ rfl rfl hl.1 rfl (lv_room (Nat.le_of_ble_eq_true rfl)) dX9_rush_92 ⟨Nat.zero_le _, Nat.zero_le _⟩) hS (fun x130 u128 H locs w129 hG hS => ?_)
                      obtain ⟨eu131, w129⟩ := w129
                      rw [eu131] at hG
                      rw [show (gs g20 144 v2_47.toInt.toNat x26.toInt) 135 = (g20 135) by rw [gs_r _ _ _ (by decide)]] at w129
                      rw [show (gs g20 144 v2_47.toInt.toNat x26.toInt) 102 = (g 102) by rw [gs_r _ _ _ (by decide), (show g20 102 = g5 102 from funext fun j => hf21 102 j (by decide) (by decide) (by decide) (by decide) (by decide) (by decide)), (show g5 102 = (gs g 100 0 x1.toInt) 102 from funext fun j => hf7 102 j (by decide) (by decide)), gs_r _ _ _ (by decide)]] at w129
                      rw [show (gs g20 144 v2_47.toInt.toNat x26.toInt) 128 = (g 128) by rw [gs_r _ _ _ (by decide), (show g20 128 = g5 128 from funext fun j => hf21 128 j (by decide) (by decide) (by decide) (by decide) (by decide) (by decide)), (show g5 128 = (gs g 100 0 x1.toInt) 128 from funext fun j => hf7 128 j (by decide) (by decide)), gs_r _ _ _ (by decide)]] at w129
                      rw [show (gs g20 144 v2_47.toInt.toNat x26.toInt) 103 = (g 103) by rw [gs_r _ _ _ (by decide), (show g20 103 = g5 103 from funext fun j => hf21 103 j (by decide) (by decide) (by decide) (by decide) (by decide) (by decide)), (show g5 103 = (gs g 100 0 x1.toInt) 103 from funext fun j => hf7 103 j (by decide) (by decide)), gs_r _ _ _ (by decide)]] at w129
                      rw [show (gs g20 144 v2_47.toInt.toNat x26.toInt) 129 = (g 129) by rw [gs_r _ _ _ (by decide), (show g20 129 = g5 129 from funext fun j => hf21 129 j (by decide) (by decide) (by decide) (by decide) (by decide) (by decide)), (show g5 129 = (gs g 100 0 x1.toInt) 129 from funext fun j => hf7 129 j (by decide) (by decide)), gs_r _ _ _ (by decide)]] at w129
                      rw [show x125.toInt.toNat = 200 + v2_47.toInt.toNat by omega] at w129
                      refine ty_if_eq (tgt := 141) hx hb dX9_rush_95 (by decide) (fun c132 => ?_) (fun c132 => ?_)
                      · skip
                        obtain ⟨x133, h134⟩ : ∃ y : Int32, y = v4_64 + Int32.ofInt (1) := ⟨_, rfl⟩
                        try have h135 : x133.toInt = v4_64.toInt + (1) := ty_inc h134 (by decide) (by omega) (by omega)
                        refine lv_iinc (v := x133) (lv' := [(4, .int x133), (3, .int v3_64), (2, .int v2_47), (1, .int v1_47), (0, .ref h0)]) hx hb dX9_rush_141 hl (k := 0) rfl h134.symm (by decide) rfl (fun ls hl => ?_)
                        refine lv_goto (tgt := 64) hx hb dX9_rush_144 (by decide) ?_
                        have e136 : (gs g20 144 v2_47.toInt.toNat x26.toInt) 126 0 = g20 126 0 := by rw [gs_c _ _ _ _ (by decide)]
                        exact ih_64 x133 v3_64 _ _ ls (by omega) (by omega) (by omega) (rb_no hb0 (by omega) (by omega)) hG hS (lv_sub hl [0, 1, 2, 3, 4] rfl)
                      · skip
                        refine lv_aload_n hx hb dX9_rush_98 rfl (lv_at hl 4 rfl) ?_
                        refine get_X9_31 hx hb hA hown hE hG t_h0 wd_4_161 dX9_rush_99 (fun b137 (t_b137 : ty Γ b137 131) => ?_)
                        refine lv_iload hx hb dX9_rush_102 (lv_at hl 0 rfl) ?_
                        refine ald_mI hx hb hE hG 31 rfl (n := 200) rfl (lo := -2147483648) (hi := 2147483647) rfl rfl t_b137 (by omega) dX9_rush_104 (fun j139 x138 h140 h141 h142 => ?_)
                        clear h142
                        obtain rfl : j139 = v4_64.toInt.toNat := by omega
                        rw [gs_c _ _ _ _ (by decide)] at h141
                        replace h141 : x138.toInt = g20 131 v4_64.toInt.toNat := h141
                        have hk143 : g20 131 v4_64.toInt.toNat = g5 131 v4_64.toInt.toNat := hf21 131 v4_64.toInt.toNat (by decide) (by decide) (by decide) (by decide) (by decide) (by decide)
                        have hk144 : g5 131 v4_64.toInt.toNat = (gs g 100 0 x1.toInt) 131 v4_64.toInt.toNat := hf7 131 v4_64.toInt.toNat (by decide) (by decide)
                        replace hk144 : g5 131 v4_64.toInt.toNat = g 131 v4_64.toInt.toNat := by rw [hk144, gs_c _ _ _ _ (by decide)]
                        replace h141 : x138.toInt = g 131 v4_64.toInt.toNat := by rw [h141, hf21 131 v4_64.toInt.toNat (by decide) (by decide) (by decide) (by decide) (by decide) (by decide), hf7 131 v4_64.toInt.toNat (by decide) (by decide), gs_c _ _ _ _ (by decide)]
                        refine lv_aload_n hx hb dX9_rush_105 rfl (lv_at hl 4 rfl) ?_
                        refine get_X9_6 hx hb hA hown hE hG t_h0 wd_4_136 dX9_rush_106 (fun b145 (t_b145 : ty Γ b145 106) => ?_)
                        refine lv_iload_n hx hb dX9_rush_109 rfl (lv_at hl 2 rfl) ?_
                        refine ald_mI hx hb hE hG 6 rfl (n := 10) rfl (lo := -2147483648) (hi := 2147483647) rfl rfl t_b145 (by omega) dX9_rush_110 (fun j147 x146 h148 h149 h150 => ?_)
                        clear h150
                        obtain rfl : j147 = v2_47.toInt.toNat := by omega
                        rw [gs_c _ _ _ _ (by decide)] at h149
                        replace h149 : x146.toInt = g20 106 v2_47.toInt.toNat := h149
                        refine ty_icmp_le (tgt := 117) hx hb dX9_rush_111 (by decide) (fun c151 => ?_) (fun c151 => ?_)
                        · skip
                          refine lv_iload_n hx hb dX9_rush_117 rfl (lv_at hl 1 rfl) ?_
                          refine ty_iconst hx hb (-1) dX9_rush_118 (by decide) (fun x152 h153 => ?_)
                          refine ty_icmp_eq (tgt := 138) hx hb dX9_rush_119 (by decide) (fun c154 => ?_) (fun c154 => ?_)
                          · skip
                            refine lv_iload hx hb dX9_rush_138 (lv_at hl 0 rfl) ?_
                            refine lv_istore_n (lv' := [(3, .int v4_64), (4, .int v4_64), (2, .int v2_47), (1, .int v1_47), (0, .ref h0)]) hx hb dX9_rush_140 rfl hl (by decide) rfl (fun ls hl => ?_)
                            obtain ⟨x155, h156⟩ : ∃ y : Int32, y = v4_64 + Int32.ofInt (1) := ⟨_, rfl⟩
                            try have h157 : x155.toInt = v4_64.toInt + (1) := ty_inc h156 (by decide) (by omega) (by omega)
                            refine lv_iinc (v := x155) (lv' := [(4, .int x155), (3, .int v4_64), (2, .int v2_47), (1, .int v1_47), (0, .ref h0)]) hx hb dX9_rush_141 hl (k := 1) rfl h156.symm (by decide) rfl (fun ls hl => ?_)
                            refine lv_goto (tgt := 64) hx hb dX9_rush_144 (by decide) ?_
                            have e158 : (gs g20 144 v2_47.toInt.toNat x26.toInt) 126 0 = g20 126 0 := by rw [gs_c _ _ _ _ (by decide)]
                            exact ih_64 x155 v4_64 _ _ ls (by omega) (by omega) (by omega) (rb_y hb0 (by omega) (by omega) (by omega)) hG hS (lv_sub hl [0, 1, 2, 3, 4] rfl)
                          · skip
                            refine lv_aload_n hx hb dX9_rush_122 rfl (lv_at hl 4 rfl) ?_
                            refine get_X9_31 hx hb hA hown hE hG t_h0 wd_4_161 dX9_rush_123 (fun b159 (t_b159 : ty Γ b159 131) => ?_)
                            refine lv_iload hx hb dX9_rush_126 (lv_at hl 0 rfl) ?_
                            refine ald_mI hx hb hE hG 31 rfl (n := 200) rfl (lo := -2147483648) (hi := 2147483647) rfl rfl t_b159 (by omega) dX9_rush_128 (fun j161 x160 h162 h163 h164 => ?_)
                            clear h164
                            obtain rfl : j161 = v4_64.toInt.toNat := by omega
                            rw [gs_c _ _ _ _ (by decide)] at h163
                            replace h163 : x160.toInt = g20 131 v4_64.toInt.toNat := h163
                            replace h163 : x160.toInt = g 131 v4_64.toInt.toNat := by rw [h163, hf21 131 v4_64.toInt.toNat (by decide) (by decide) (by decide) (by decide) (by decide) (by decide), hf7 131 v4_64.toInt.toNat (by decide) (by decide), gs_c _ _ _ _ (by decide)]
                            refine lv_aload_n hx hb dX9_rush_129 rfl (lv_at hl 4 rfl) ?_
                            refine get_X9_31 hx hb hA hown hE hG t_h0 wd_4_161 dX9_rush_130 (fun b165 (t_b165 : ty Γ b165 131) => ?_)
                            refine lv_iload_n hx hb dX9_rush_133 rfl (lv_at hl 1 rfl) ?_
                            refine ald_mI hx hb hE hG 31 rfl (n := 200) rfl (lo := -2147483648) (hi := 2147483647) rfl rfl t_b165 (by omega) dX9_rush_134 (fun j167 x166 h168 h169 h170 => ?_)
                            clear h170
                            obtain rfl : j167 = v3_64.toInt.toNat := by omega
                            rw [gs_c _ _ _ _ (by decide)] at h169
                            replace h169 : x166.toInt = g20 131 v3_64.toInt.toNat := h169
                            have hk171 : g20 131 v3_64.toInt.toNat = g5 131 v3_64.toInt.toNat := hf21 131 v3_64.toInt.toNat (by decide) (by decide) (by decide) (by decide) (by decide) (by decide)
                            have hk172 : g5 131 v3_64.toInt.toNat = (gs g 100 0 x1.toInt) 131 v3_64.toInt.toNat := hf7 131 v3_64.toInt.toNat (by decide) (by decide)
                            replace hk172 : g5 131 v3_64.toInt.toNat = g 131 v3_64.toInt.toNat := by rw [hk172, gs_c _ _ _ _ (by decide)]
                            replace h169 : x166.toInt = g 131 v3_64.toInt.toNat := by rw [h169, hf21 131 v3_64.toInt.toNat (by decide) (by decide) (by decide) (by decide) (by decide) (by decide), hf7 131 v3_64.toInt.toNat (by decide) (by decide), gs_c _ _ _ _ (by decide)]
                            refine ty_icmp_le (tgt := 141) hx hb dX9_rush_135 (by decide) (fun c173 => ?_) (fun c173 => ?_)
                            · skip
                              obtain ⟨x174, h175⟩ : ∃ y : Int32, y = v4_64 + Int32.ofInt (1) := ⟨_, rfl⟩
                              try have h176 : x174.toInt = v4_64.toInt + (1) := ty_inc h175 (by decide) (by omega) (by omega)
                              refine lv_iinc (v := x174) (lv' := [(4, .int x174), (3, .int v3_64), (2, .int v2_47), (1, .int v1_47), (0, .ref h0)]) hx hb dX9_rush_141 hl (k := 0) rfl h175.symm (by decide) rfl (fun ls hl => ?_)
                              refine lv_goto (tgt := 64) hx hb dX9_rush_144 (by decide) ?_
                              have e177 : (gs g20 144 v2_47.toInt.toNat x26.toInt) 126 0 = g20 126 0 := by rw [gs_c _ _ _ _ (by decide)]
                              exact ih_64 x174 v3_64 _ _ ls (by omega) (by omega) (by omega) (rb_no hb0 (by omega) (by omega)) hG hS (lv_sub hl [0, 1, 2, 3, 4] rfl)
                            · skip
                              refine lv_iload hx hb dX9_rush_138 (lv_at hl 0 rfl) ?_
                              refine lv_istore_n (lv' := [(3, .int v4_64), (4, .int v4_64), (2, .int v2_47), (1, .int v1_47), (0, .ref h0)]) hx hb dX9_rush_140 rfl hl (by decide) rfl (fun ls hl => ?_)
                              obtain ⟨x178, h179⟩ : ∃ y : Int32, y = v4_64 + Int32.ofInt (1) := ⟨_, rfl⟩
                              try have h180 : x178.toInt = v4_64.toInt + (1) := ty_inc h179 (by decide) (by omega) (by omega)
                              refine lv_iinc (v := x178) (lv' := [(4, .int x178), (3, .int v4_64), (2, .int v2_47), (1, .int v1_47), (0, .ref h0)]) hx hb dX9_rush_141 hl (k := 1) rfl h179.symm (by decide) rfl (fun ls hl => ?_)
                              refine lv_goto (tgt := 64) hx hb dX9_rush_144 (by decide) ?_
                              have e181 : (gs g20 144 v2_47.toInt.toNat x26.toInt) 126 0 = g20 126 0 := by rw [gs_c _ _ _ _ (by decide)]
                              exact ih_64 x178 v4_64 _ _ ls (by omega) (by omega) (by omega) (rb_y hb0 (by omega) (by omega) (by omega)) hG hS (lv_sub hl [0, 1, 2, 3, 4] rfl)
                        · skip
                          refine lv_goto (tgt := 141) hx hb dX9_rush_114 (by decide) ?_
                          obtain ⟨x182, h183⟩ : ∃ y : Int32, y = v4_64 + Int32.ofInt (1) := ⟨_, rfl⟩
                          try have h184 : x182.toInt = v4_64.toInt + (1) := ty_inc h183 (by decide) (by omega) (by omega)
                          refine lv_iinc (v := x182) (lv' := [(4, .int x182), (3, .int v3_64), (2, .int v2_47), (1, .int v1_47), (0, .ref h0)]) hx hb dX9_rush_141 hl (k := 0) rfl h183.symm (by decide) rfl (fun ls hl => ?_)
                          refine lv_goto (tgt := 64) hx hb dX9_rush_144 (by decide) ?_
                          have e185 : (gs g20 144 v2_47.toInt.toNat x26.toInt) 126 0 = g20 126 0 := by rw [gs_c _ _ _ _ (by decide)]
                          exact ih_64 x182 v3_64 _ _ ls (by omega) (by omega) (by omega) (rb_no hb0 (by omega) (by omega)) hG hS (lv_sub hl [0, 1, 2, 3, 4] rfl)
              have e186 : (gs g20 144 v2_47.toInt.toNat x26.toInt) 126 0 = g20 126 0 := by rw [gs_c _ _ _ _ (by decide)]
              exact L_64 (((gs g20 144 v2_47.toInt.toNat x26.toInt) 126 0 - x30.toInt) + 1).toNat x30 x28 _ _ ls (by omega) (by omega) (by omega) (by rw [show x30.toInt.toNat = 0 by omega]; show _ = (-1 : Int); omega) hG hS (lv_sub hl [0, 1, 2, 3, 4] rfl)
        exact L_47 (((cnt (g 104 0).toNat (g5 144) 0 : Int)) + 1).toNat x18 x14 g5 _ _ ls (by omega) (by omega) (by omega) (fun c j _ _ _ _ _ _ => rfl) (by (repeat (first | with_reducible assumption | (refine IJ_c (by decide) (by decide) (by decide) ?_) | (refine IJ_take (by omega) (by omega) ?_) | (refine IJ_how (by omega) ?_) | (refine IJ_by (by omega) ?_)))) (by rw [hct9]; exact congrArg (rm_f (g 131) (g 128) (g 129) (g 102) (g 103) (g 108) (lk_f (g 145) (g 107) (g 104 0).toNat) (g 126 0).toNat (g 104 0).toNat (g 104 0).toNat) (pz_c7 (by rw [(show g5 106 = (gs g 100 0 x1.toInt) 106 from funext fun j => hf7 106 j (by decide) (by decide)), gs_r _ _ _ (by decide)]) (by rw [(show g5 107 = (gs g 100 0 x1.toInt) 107 from funext fun j => hf7 107 j (by decide) (by decide)), gs_r _ _ _ (by decide)]) (by rw [ha0, show v1_7.toInt.toNat = (g 104 0).toNat by omega]) (by rw [(show g5 135 = (gs g 100 0 x1.toInt) 135 from funext fun j => hf7 135 j (by decide) (by decide)), gs_r _ _ _ (by decide)]) (by rw [(show g5 132 = (gs g 100 0 x1.toInt) 132 from funext fun j => hf7 132 j (by decide) (by decide)), gs_r _ _ _ (by decide)]) (by rw [(show g5 134 = (gs g 100 0 x1.toInt) 134 from funext fun j => hf7 134 j (by decide) (by decide)), gs_r _ _ _ (by decide)]) (by omega))) (by have h9 := w17.2; rw [show v1_7.toInt.toNat = (g 104 0).toNat by omega] at h9; rw [show g5 135 = (g 135) by rw [(show g5 135 = (gs g 100 0 x1.toInt) 135 from funext fun j => hf7 135 j (by decide) (by decide)), gs_r _ _ _ (by decide)], show g5 144 = (fz (g 144) 0 0 v1_7.toInt.toNat) by rw [ha0], show v1_7.toInt.toNat = (g 104 0).toNat by omega]; exact h9) hG hS (lv_sub hl [0, 1, 2] rfl)
      · skip
        refine lv_aload_n hx hb dX9_rush_15 rfl (lv_at hl 1 rfl) ?_
        refine get_X9_44 hx hb hA hown hE hG t_h0 wd_4_174 dX9_rush_16 (fun b187 (t_b187 : ty Γ b187 144) => ?_)
        refine lv_iload_n hx hb dX9_rush_19 rfl (lv_at hl 0 rfl) ?_
        refine ty_iconst hx hb (0) dX9_rush_20 (by decide) (fun x188 h189 => ?_)
        refine ast_mZ hx hb hE hG hS hU 44 rfl (n := 10) rfl (lo := 0) (hi := 1) rfl rfl rfl t_b187 (by omega) (by omega) (by omega) dX9_rush_21 (fun H locs hG hS => ?_)
        refine lv_aload_n hx hb dX9_rush_22 rfl (lv_at hl 1 rfl) ?_
        refine get_X9_45 hx hb hA hown hE hG t_h0 wd_4_175 dX9_rush_23 (fun b190 (t_b190 : ty Γ b190 145) => ?_)
        refine lv_iload_n hx hb dX9_rush_26 rfl (lv_at hl 0 rfl) ?_
        refine lv_aload_n hx hb dX9_rush_27 rfl (lv_at hl 1 rfl) ?_
        refine get_X9_7 hx hb hA hown hE hG t_h0 wd_4_137 dX9_rush_28 (fun b191 (t_b191 : ty Γ b191 107) => ?_)
        refine lv_iload_n hx hb dX9_rush_31 rfl (lv_at hl 0 rfl) ?_
        refine ald_mI hx hb hE hG 7 rfl (n := 10) rfl (lo := -2147483648) (hi := 2147483647) rfl rfl t_b191 (by omega) dX9_rush_32 (fun j193 x192 h194 h195 h196 => ?_)
        clear h196
        obtain rfl : j193 = v1_7.toInt.toNat := by omega
        rw [gs_c _ _ _ _ (by decide)] at h195
        replace h195 : x192.toInt = g5 107 v1_7.toInt.toNat := h195
        have hk197 : g5 107 v1_7.toInt.toNat = (gs g 100 0 x1.toInt) 107 v1_7.toInt.toNat := hf7 107 v1_7.toInt.toNat (by decide) (by decide)
        replace hk197 : g5 107 v1_7.toInt.toNat = g 107 v1_7.toInt.toNat := by rw [hk197, gs_c _ _ _ _ (by decide)]
        replace h195 : x192.toInt = g 107 v1_7.toInt.toNat := by rw [h195, hf7 107 v1_7.toInt.toNat (by decide) (by decide), gs_c _ _ _ _ (by decide)]
        refine ast_mI hx hb hE hG hS hU 45 rfl (n := 10) rfl (lo := -2147483648) (hi := 2147483647) rfl rfl rfl t_b190 (rgD _) (by omega) dX9_rush_33 (fun H locs hG hS => ?_)
        obtain ⟨x198, h199⟩ : ∃ y : Int32, y = v1_7 + Int32.ofInt (1) := ⟨_, rfl⟩
        try have h200 : x198.toInt = v1_7.toInt + (1) := ty_inc h199 (by decide) (by omega) (by omega)
        refine lv_iinc (v := x198) (lv' := [(1, .int x198), (0, .ref h0)]) hx hb dX9_rush_34 hl (k := 0) rfl h199.symm (by decide) rfl (fun ls hl => ?_)
        refine lv_goto (tgt := 7) hx hb dX9_rush_37 (by decide) ?_
        have e201 : (gs (gs g5 144 v1_7.toInt.toNat x188.toInt) 145 v1_7.toInt.toNat x192.toInt) 104 0 = g5 104 0 := by rw [gs_c _ _ _ _ (by decide), gs_c _ _ _ _ (by decide)]
        exact ih_7 x198 (gs (gs g5 144 v1_7.toInt.toNat x188.toInt) 145 v1_7.toInt.toNat x192.toInt) _ _ ls (by omega) (by omega) (fun c j h144 h145 => by rw [gs_c _ _ _ _ h145, gs_c _ _ _ _ h144, hf7 c j h144 h145]) (by rw [gs_r _ _ _ (by decide), pz_gs]; exact fz_s ha0 (by omega) (by omega) (by omega)) (by rw [pz_gs, gs_r _ _ _ (by decide)]; exact lk_s (by omega) (by omega) ha1) hG hS (lv_sub hl [0, 1] rfl)
  have e202 : (gs g 100 0 x1.toInt) 104 0 = g 104 0 := by rw [gs_c _ _ _ _ (by decide)]
  exact L_7 (((gs g 100 0 x1.toInt) 104 0 - x3.toInt) + 1).toNat x3 (gs g 100 0 x1.toInt) _ _ ls (by omega) (by omega) (fun c j _ _ => rfl) (by rw [gs_r _ _ _ (by decide)]; exact fz_0 (by omega)) (by rw [gs_r _ _ _ (by decide)]; exact lk_0 (by omega)) hG hS (lv_sub hl [0, 1] rfl)
